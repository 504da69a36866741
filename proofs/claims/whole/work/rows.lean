section
-- ===== PART A: goes FIRST, ahead of the names: the tables' words, and 'selects' of the private methods out of them =====
/-- a private method of a class that the tables say can be made, by its rows of tables_1 -/
def lw_okq (q : MethodName × Nat) : Prop := (q.1.cls ≠ "java/lang/invoke/MethodHandle" ∧ q.1.cls ≠ "java/lang/invoke/VarHandle") ∧ Cond.instantiable q.1.cls q.2 ∈ tables_1 ∧ Cond.privateMethod q.1 ∈ tables_1 ∧ Cond.instanceMethod q.1 ∈ tables_1
theorem lw_p0 : lw_okq (⟨"HeaderWays$Text", "readSign", "(C)Z"⟩, 9) := ⟨⟨by decide +kernel, by decide +kernel⟩, List.mem_of_getElem? (i := 90) (by decide +kernel), List.mem_of_getElem? (i := 396) (by decide +kernel), List.mem_of_getElem? (i := 397) (by decide +kernel)⟩
theorem lw_p1 : lw_okq (⟨"HeaderWays$Text", "readToken", "()V"⟩, 9) := ⟨⟨by decide +kernel, by decide +kernel⟩, List.mem_of_getElem? (i := 90) (by decide +kernel), List.mem_of_getElem? (i := 400) (by decide +kernel), List.mem_of_getElem? (i := 401) (by decide +kernel)⟩
theorem lw_p2 : lw_okq (⟨"HeaderWays$Text", "skipBlanks", "(I)I"⟩, 9) := ⟨⟨by decide +kernel, by decide +kernel⟩, List.mem_of_getElem? (i := 90) (by decide +kernel), List.mem_of_getElem? (i := 404) (by decide +kernel), List.mem_of_getElem? (i := 405) (by decide +kernel)⟩
theorem lw_p3 : lw_okq (⟨"HeaderWays$Text", "readClause", "(I)Z"⟩, 9) := ⟨⟨by decide +kernel, by decide +kernel⟩, List.mem_of_getElem? (i := 90) (by decide +kernel), List.mem_of_getElem? (i := 411) (by decide +kernel), List.mem_of_getElem? (i := 412) (by decide +kernel)⟩
theorem lw_p4 : lw_okq (⟨"HeaderWays$Text", "isWord", "(Ljava/lang/String;)Z"⟩, 9) := ⟨⟨by decide +kernel, by decide +kernel⟩, List.mem_of_getElem? (i := 90) (by decide +kernel), List.mem_of_getElem? (i := 416) (by decide +kernel), List.mem_of_getElem? (i := 417) (by decide +kernel)⟩
theorem lw_p5 : lw_okq (⟨"HeaderWays$Text", "readNodes", "(I)Z"⟩, 9) := ⟨⟨by decide +kernel, by decide +kernel⟩, List.mem_of_getElem? (i := 90) (by decide +kernel), List.mem_of_getElem? (i := 468) (by decide +kernel), List.mem_of_getElem? (i := 469) (by decide +kernel)⟩
theorem lw_p6 : lw_okq (⟨"HeaderWays$Text", "readNumber", "(II)I"⟩, 9) := ⟨⟨by decide +kernel, by decide +kernel⟩, List.mem_of_getElem? (i := 90) (by decide +kernel), List.mem_of_getElem? (i := 472) (by decide +kernel), List.mem_of_getElem? (i := 473) (by decide +kernel)⟩
theorem lw_p7 : lw_okq (⟨"HeaderWays$Text", "keep", "(IIIII)V"⟩, 9) := ⟨⟨by decide +kernel, by decide +kernel⟩, List.mem_of_getElem? (i := 90) (by decide +kernel), List.mem_of_getElem? (i := 476) (by decide +kernel), List.mem_of_getElem? (i := 477) (by decide +kernel)⟩
theorem lw_p8 : lw_okq (⟨"HeaderWays$Text", "readLink", "(I)Z"⟩, 9) := ⟨⟨by decide +kernel, by decide +kernel⟩, List.mem_of_getElem? (i := 90) (by decide +kernel), List.mem_of_getElem? (i := 481) (by decide +kernel), List.mem_of_getElem? (i := 482) (by decide +kernel)⟩
theorem lw_p9 : lw_okq (⟨"HeaderWays$Text", "isTooMany", "(J)Z"⟩, 9) := ⟨⟨by decide +kernel, by decide +kernel⟩, List.mem_of_getElem? (i := 90) (by decide +kernel), List.mem_of_getElem? (i := 486) (by decide +kernel), List.mem_of_getElem? (i := 487) (by decide +kernel)⟩
theorem lw_p10 : lw_okq (⟨"HeaderWays", "doClause", "(I)V"⟩, 9) := ⟨⟨by decide +kernel, by decide +kernel⟩, List.mem_of_getElem? (i := 21) (by decide +kernel), List.mem_of_getElem? (i := 501) (by decide +kernel), List.mem_of_getElem? (i := 502) (by decide +kernel)⟩
theorem lw_p11 : lw_okq (⟨"HeaderWays$Net", "addLink", "(II)I"⟩, 9) := ⟨⟨by decide +kernel, by decide +kernel⟩, List.mem_of_getElem? (i := 29) (by decide +kernel), List.mem_of_getElem? (i := 529) (by decide +kernel), List.mem_of_getElem? (i := 530) (by decide +kernel)⟩
theorem lw_p12 : lw_okq (⟨"HeaderWays", "turn", "(I)I"⟩, 9) := ⟨⟨by decide +kernel, by decide +kernel⟩, List.mem_of_getElem? (i := 21) (by decide +kernel), List.mem_of_getElem? (i := 554) (by decide +kernel), List.mem_of_getElem? (i := 555) (by decide +kernel)⟩
theorem lw_p13 : lw_okq (⟨"HeaderWays$Past", "keep", "(IIII)V"⟩, 7) := ⟨⟨by decide +kernel, by decide +kernel⟩, List.mem_of_getElem? (i := 126) (by decide +kernel), List.mem_of_getElem? (i := 562) (by decide +kernel), List.mem_of_getElem? (i := 563) (by decide +kernel)⟩
theorem lw_p14 : lw_okq (⟨"HeaderWays$Routes", "startFrom", "(I)V"⟩, 4) := ⟨⟨by decide +kernel, by decide +kernel⟩, List.mem_of_getElem? (i := 155) (by decide +kernel), List.mem_of_getElem? (i := 617) (by decide +kernel), List.mem_of_getElem? (i := 618) (by decide +kernel)⟩
theorem lw_p15 : lw_okq (⟨"HeaderWays$Routes", "shorten", "(III)V"⟩, 4) := ⟨⟨by decide +kernel, by decide +kernel⟩, List.mem_of_getElem? (i := 155) (by decide +kernel), List.mem_of_getElem? (i := 621) (by decide +kernel), List.mem_of_getElem? (i := 622) (by decide +kernel)⟩
def lw_privs_1 : List (MethodName × Nat) := [(⟨"HeaderWays$Text", "readSign", "(C)Z"⟩, 9), (⟨"HeaderWays$Text", "readToken", "()V"⟩, 9), (⟨"HeaderWays$Text", "skipBlanks", "(I)I"⟩, 9), (⟨"HeaderWays$Text", "readClause", "(I)Z"⟩, 9), (⟨"HeaderWays$Text", "isWord", "(Ljava/lang/String;)Z"⟩, 9), (⟨"HeaderWays$Text", "readNodes", "(I)Z"⟩, 9), (⟨"HeaderWays$Text", "readNumber", "(II)I"⟩, 9), (⟨"HeaderWays$Text", "keep", "(IIIII)V"⟩, 9), (⟨"HeaderWays$Text", "readLink", "(I)Z"⟩, 9), (⟨"HeaderWays$Text", "isTooMany", "(J)Z"⟩, 9), (⟨"HeaderWays", "doClause", "(I)V"⟩, 9), (⟨"HeaderWays$Net", "addLink", "(II)I"⟩, 9), (⟨"HeaderWays", "turn", "(I)I"⟩, 9), (⟨"HeaderWays$Past", "keep", "(IIII)V"⟩, 7), (⟨"HeaderWays$Routes", "startFrom", "(I)V"⟩, 4), (⟨"HeaderWays$Routes", "shorten", "(III)V"⟩, 4)]
theorem lw_r1 : ∀ q ∈ lw_privs_1, lw_okq q := List.forall_mem_cons.mpr ⟨lw_p0, List.forall_mem_cons.mpr ⟨lw_p1, List.forall_mem_cons.mpr ⟨lw_p2, List.forall_mem_cons.mpr ⟨lw_p3, List.forall_mem_cons.mpr ⟨lw_p4, List.forall_mem_cons.mpr ⟨lw_p5, List.forall_mem_cons.mpr ⟨lw_p6, List.forall_mem_cons.mpr ⟨lw_p7, List.forall_mem_cons.mpr ⟨lw_p8, List.forall_mem_cons.mpr ⟨lw_p9, List.forall_mem_cons.mpr ⟨lw_p10, List.forall_mem_cons.mpr ⟨lw_p11, List.forall_mem_cons.mpr ⟨lw_p12, List.forall_mem_cons.mpr ⟨lw_p13, List.forall_mem_cons.mpr ⟨lw_p14, List.forall_mem_cons.mpr ⟨lw_p15, fun _ h => absurd h List.not_mem_nil⟩⟩⟩⟩⟩⟩⟩⟩⟩⟩⟩⟩⟩⟩⟩⟩
theorem lw_p16 : lw_okq (⟨"HeaderWays$Routes", "leadOn", "(IIII)V"⟩, 4) := ⟨⟨by decide +kernel, by decide +kernel⟩, List.mem_of_getElem? (i := 155) (by decide +kernel), List.mem_of_getElem? (i := 625) (by decide +kernel), List.mem_of_getElem? (i := 626) (by decide +kernel)⟩
theorem lw_p17 : lw_okq (⟨"HeaderWays$Rounds", "goesRound", "(III)Z"⟩, 6) := ⟨⟨by decide +kernel, by decide +kernel⟩, List.mem_of_getElem? (i := 174) (by decide +kernel), List.mem_of_getElem? (i := 664) (by decide +kernel), List.mem_of_getElem? (i := 665) (by decide +kernel)⟩
theorem lw_p18 : lw_okq (⟨"HeaderWays$Rounds", "firstToLearn", "(II)I"⟩, 6) := ⟨⟨by decide +kernel, by decide +kernel⟩, List.mem_of_getElem? (i := 174) (by decide +kernel), List.mem_of_getElem? (i := 695) (by decide +kernel), List.mem_of_getElem? (i := 696) (by decide +kernel)⟩
theorem lw_p19 : lw_okq (⟨"HeaderWays$Briefs", "shorten", "(IZ)Z"⟩, 10) := ⟨⟨by decide +kernel, by decide +kernel⟩, List.mem_of_getElem? (i := 247) (by decide +kernel), List.mem_of_getElem? (i := 741) (by decide +kernel), List.mem_of_getElem? (i := 742) (by decide +kernel)⟩
theorem lw_p20 : lw_okq (⟨"HeaderWays$Briefs", "followedFrom", "(I)I"⟩, 10) := ⟨⟨by decide +kernel, by decide +kernel⟩, List.mem_of_getElem? (i := 247) (by decide +kernel), List.mem_of_getElem? (i := 746) (by decide +kernel), List.mem_of_getElem? (i := 747) (by decide +kernel)⟩
theorem lw_p21 : lw_okq (⟨"HeaderWays$Briefs", "linkIn", "(III)I"⟩, 10) := ⟨⟨by decide +kernel, by decide +kernel⟩, List.mem_of_getElem? (i := 247) (by decide +kernel), List.mem_of_getElem? (i := 751) (by decide +kernel), List.mem_of_getElem? (i := 752) (by decide +kernel)⟩
theorem lw_p22 : lw_okq (⟨"HeaderWays$Briefs", "chooseFirst", "(I)V"⟩, 10) := ⟨⟨by decide +kernel, by decide +kernel⟩, List.mem_of_getElem? (i := 247) (by decide +kernel), List.mem_of_getElem? (i := 756) (by decide +kernel), List.mem_of_getElem? (i := 757) (by decide +kernel)⟩
theorem lw_p23 : lw_okq (⟨"HeaderWays$Briefs", "lowestKind", "(II)I"⟩, 10) := ⟨⟨by decide +kernel, by decide +kernel⟩, List.mem_of_getElem? (i := 247) (by decide +kernel), List.mem_of_getElem? (i := 760) (by decide +kernel), List.mem_of_getElem? (i := 761) (by decide +kernel)⟩
theorem lw_p24 : lw_okq (⟨"HeaderWays$Briefs", "writeFound", "()V"⟩, 10) := ⟨⟨by decide +kernel, by decide +kernel⟩, List.mem_of_getElem? (i := 247) (by decide +kernel), List.mem_of_getElem? (i := 764) (by decide +kernel), List.mem_of_getElem? (i := 765) (by decide +kernel)⟩
theorem lw_p25 : lw_okq (⟨"HeaderWays$Letters", "takeOffReached", "(I)V"⟩, 11) := ⟨⟨by decide +kernel, by decide +kernel⟩, List.mem_of_getElem? (i := 290) (by decide +kernel), List.mem_of_getElem? (i := 831) (by decide +kernel), List.mem_of_getElem? (i := 832) (by decide +kernel)⟩
theorem lw_p26 : lw_okq (⟨"HeaderWays$Letters", "linkAhead", "(I)I"⟩, 11) := ⟨⟨by decide +kernel, by decide +kernel⟩, List.mem_of_getElem? (i := 290) (by decide +kernel), List.mem_of_getElem? (i := 847) (by decide +kernel), List.mem_of_getElem? (i := 848) (by decide +kernel)⟩
theorem lw_p27 : lw_okq (⟨"HeaderWays$Letters", "crossLink", "(II)I"⟩, 11) := ⟨⟨by decide +kernel, by decide +kernel⟩, List.mem_of_getElem? (i := 290) (by decide +kernel), List.mem_of_getElem? (i := 870) (by decide +kernel), List.mem_of_getElem? (i := 871) (by decide +kernel)⟩
theorem lw_p28 : lw_okq (⟨"HeaderWays$Letters", "mend", "(II)Z"⟩, 11) := ⟨⟨by decide +kernel, by decide +kernel⟩, List.mem_of_getElem? (i := 290) (by decide +kernel), List.mem_of_getElem? (i := 874) (by decide +kernel), List.mem_of_getElem? (i := 875) (by decide +kernel)⟩
theorem lw_p29 : lw_okq (⟨"HeaderWaysModel", "reads", "(Z)I"⟩, 45) := ⟨⟨by decide +kernel, by decide +kernel⟩, List.mem_of_getElem? (i := 897) (by decide +kernel), List.mem_of_getElem? (i := 1054) (by decide +kernel), List.mem_of_getElem? (i := 1055) (by decide +kernel)⟩
theorem lw_p30 : lw_okq (⟨"HeaderWaysModel", "clause", "()V"⟩, 45) := ⟨⟨by decide +kernel, by decide +kernel⟩, List.mem_of_getElem? (i := 897) (by decide +kernel), List.mem_of_getElem? (i := 1058) (by decide +kernel), List.mem_of_getElem? (i := 1059) (by decide +kernel)⟩
theorem lw_p31 : lw_okq (⟨"HeaderWaysModel", "looks", "()I"⟩, 45) := ⟨⟨by decide +kernel, by decide +kernel⟩, List.mem_of_getElem? (i := 897) (by decide +kernel), List.mem_of_getElem? (i := 1062) (by decide +kernel), List.mem_of_getElem? (i := 1063) (by decide +kernel)⟩
def lw_privs_2 : List (MethodName × Nat) := [(⟨"HeaderWays$Routes", "leadOn", "(IIII)V"⟩, 4), (⟨"HeaderWays$Rounds", "goesRound", "(III)Z"⟩, 6), (⟨"HeaderWays$Rounds", "firstToLearn", "(II)I"⟩, 6), (⟨"HeaderWays$Briefs", "shorten", "(IZ)Z"⟩, 10), (⟨"HeaderWays$Briefs", "followedFrom", "(I)I"⟩, 10), (⟨"HeaderWays$Briefs", "linkIn", "(III)I"⟩, 10), (⟨"HeaderWays$Briefs", "chooseFirst", "(I)V"⟩, 10), (⟨"HeaderWays$Briefs", "lowestKind", "(II)I"⟩, 10), (⟨"HeaderWays$Briefs", "writeFound", "()V"⟩, 10), (⟨"HeaderWays$Letters", "takeOffReached", "(I)V"⟩, 11), (⟨"HeaderWays$Letters", "linkAhead", "(I)I"⟩, 11), (⟨"HeaderWays$Letters", "crossLink", "(II)I"⟩, 11), (⟨"HeaderWays$Letters", "mend", "(II)Z"⟩, 11), (⟨"HeaderWaysModel", "reads", "(Z)I"⟩, 45), (⟨"HeaderWaysModel", "clause", "()V"⟩, 45), (⟨"HeaderWaysModel", "looks", "()I"⟩, 45)]
theorem lw_r2 : ∀ q ∈ lw_privs_2, lw_okq q := List.forall_mem_cons.mpr ⟨lw_p16, List.forall_mem_cons.mpr ⟨lw_p17, List.forall_mem_cons.mpr ⟨lw_p18, List.forall_mem_cons.mpr ⟨lw_p19, List.forall_mem_cons.mpr ⟨lw_p20, List.forall_mem_cons.mpr ⟨lw_p21, List.forall_mem_cons.mpr ⟨lw_p22, List.forall_mem_cons.mpr ⟨lw_p23, List.forall_mem_cons.mpr ⟨lw_p24, List.forall_mem_cons.mpr ⟨lw_p25, List.forall_mem_cons.mpr ⟨lw_p26, List.forall_mem_cons.mpr ⟨lw_p27, List.forall_mem_cons.mpr ⟨lw_p28, List.forall_mem_cons.mpr ⟨lw_p29, List.forall_mem_cons.mpr ⟨lw_p30, List.forall_mem_cons.mpr ⟨lw_p31, fun _ h => absurd h List.not_mem_nil⟩⟩⟩⟩⟩⟩⟩⟩⟩⟩⟩⟩⟩⟩⟩⟩
theorem lw_p32 : lw_okq (⟨"HeaderWaysModel", "isLetter", "(I)Z"⟩, 45) := ⟨⟨by decide +kernel, by decide +kernel⟩, List.mem_of_getElem? (i := 897) (by decide +kernel), List.mem_of_getElem? (i := 1066) (by decide +kernel), List.mem_of_getElem? (i := 1067) (by decide +kernel)⟩
theorem lw_p33 : lw_okq (⟨"HeaderWaysModel", "isFigure", "(I)Z"⟩, 45) := ⟨⟨by decide +kernel, by decide +kernel⟩, List.mem_of_getElem? (i := 897) (by decide +kernel), List.mem_of_getElem? (i := 1070) (by decide +kernel), List.mem_of_getElem? (i := 1071) (by decide +kernel)⟩
theorem lw_p34 : lw_okq (⟨"HeaderWaysModel", "isName", "(IIIII)Z"⟩, 45) := ⟨⟨by decide +kernel, by decide +kernel⟩, List.mem_of_getElem? (i := 897) (by decide +kernel), List.mem_of_getElem? (i := 1074) (by decide +kernel), List.mem_of_getElem? (i := 1075) (by decide +kernel)⟩
theorem lw_p35 : lw_okq (⟨"HeaderWaysModel", "takes", "(Z)V"⟩, 45) := ⟨⟨by decide +kernel, by decide +kernel⟩, List.mem_of_getElem? (i := 897) (by decide +kernel), List.mem_of_getElem? (i := 1078) (by decide +kernel), List.mem_of_getElem? (i := 1079) (by decide +kernel)⟩
theorem lw_p36 : lw_okq (⟨"HeaderWaysModel", "readsNodes", "()V"⟩, 45) := ⟨⟨by decide +kernel, by decide +kernel⟩, List.mem_of_getElem? (i := 897) (by decide +kernel), List.mem_of_getElem? (i := 1082) (by decide +kernel), List.mem_of_getElem? (i := 1083) (by decide +kernel)⟩
theorem lw_p37 : lw_okq (⟨"HeaderWaysModel", "figure", "(II)I"⟩, 45) := ⟨⟨by decide +kernel, by decide +kernel⟩, List.mem_of_getElem? (i := 897) (by decide +kernel), List.mem_of_getElem? (i := 1086) (by decide +kernel), List.mem_of_getElem? (i := 1087) (by decide +kernel)⟩
theorem lw_p38 : lw_okq (⟨"HeaderWaysModel", "readsLink", "()V"⟩, 45) := ⟨⟨by decide +kernel, by decide +kernel⟩, List.mem_of_getElem? (i := 897) (by decide +kernel), List.mem_of_getElem? (i := 1090) (by decide +kernel), List.mem_of_getElem? (i := 1091) (by decide +kernel)⟩
theorem lw_p39 : lw_okq (⟨"HeaderWaysModel", "readLinkOf", "(II)I"⟩, 45) := ⟨⟨by decide +kernel, by decide +kernel⟩, List.mem_of_getElem? (i := 897) (by decide +kernel), List.mem_of_getElem? (i := 1094) (by decide +kernel), List.mem_of_getElem? (i := 1095) (by decide +kernel)⟩
theorem lw_p40 : lw_okq (⟨"HeaderWaysModel", "isLink", "(I)Z"⟩, 45) := ⟨⟨by decide +kernel, by decide +kernel⟩, List.mem_of_getElem? (i := 897) (by decide +kernel), List.mem_of_getElem? (i := 1106) (by decide +kernel), List.mem_of_getElem? (i := 1107) (by decide +kernel)⟩
theorem lw_p41 : lw_okq (⟨"HeaderWaysModel", "becomesUp", "(II)I"⟩, 45) := ⟨⟨by decide +kernel, by decide +kernel⟩, List.mem_of_getElem? (i := 897) (by decide +kernel), List.mem_of_getElem? (i := 1114) (by decide +kernel), List.mem_of_getElem? (i := 1115) (by decide +kernel)⟩
theorem lw_p42 : lw_okq (⟨"HeaderWaysModel", "notes", "()V"⟩, 45) := ⟨⟨by decide +kernel, by decide +kernel⟩, List.mem_of_getElem? (i := 897) (by decide +kernel), List.mem_of_getElem? (i := 1118) (by decide +kernel), List.mem_of_getElem? (i := 1119) (by decide +kernel)⟩
theorem lw_p43 : lw_okq (⟨"HeaderWaysModel", "isNode", "(I)Z"⟩, 45) := ⟨⟨by decide +kernel, by decide +kernel⟩, List.mem_of_getElem? (i := 897) (by decide +kernel), List.mem_of_getElem? (i := 1137) (by decide +kernel), List.mem_of_getElem? (i := 1138) (by decide +kernel)⟩
theorem lw_p44 : lw_okq (⟨"HeaderWaysModel", "lays", "(II)V"⟩, 45) := ⟨⟨by decide +kernel, by decide +kernel⟩, List.mem_of_getElem? (i := 897) (by decide +kernel), List.mem_of_getElem? (i := 1153) (by decide +kernel), List.mem_of_getElem? (i := 1154) (by decide +kernel)⟩
theorem lw_p45 : lw_okq (⟨"HeaderWaysModel", "length", "(II)I"⟩, 45) := ⟨⟨by decide +kernel, by decide +kernel⟩, List.mem_of_getElem? (i := 897) (by decide +kernel), List.mem_of_getElem? (i := 1160) (by decide +kernel), List.mem_of_getElem? (i := 1161) (by decide +kernel)⟩
theorem lw_p46 : lw_okq (⟨"HeaderWaysModel", "nextOf", "(IIII)I"⟩, 45) := ⟨⟨by decide +kernel, by decide +kernel⟩, List.mem_of_getElem? (i := 897) (by decide +kernel), List.mem_of_getElem? (i := 1164) (by decide +kernel), List.mem_of_getElem? (i := 1165) (by decide +kernel)⟩
theorem lw_p47 : lw_okq (⟨"HeaderWaysModel", "linkOf", "(II)I"⟩, 45) := ⟨⟨by decide +kernel, by decide +kernel⟩, List.mem_of_getElem? (i := 897) (by decide +kernel), List.mem_of_getElem? (i := 1168) (by decide +kernel), List.mem_of_getElem? (i := 1169) (by decide +kernel)⟩
def lw_privs_3 : List (MethodName × Nat) := [(⟨"HeaderWaysModel", "isLetter", "(I)Z"⟩, 45), (⟨"HeaderWaysModel", "isFigure", "(I)Z"⟩, 45), (⟨"HeaderWaysModel", "isName", "(IIIII)Z"⟩, 45), (⟨"HeaderWaysModel", "takes", "(Z)V"⟩, 45), (⟨"HeaderWaysModel", "readsNodes", "()V"⟩, 45), (⟨"HeaderWaysModel", "figure", "(II)I"⟩, 45), (⟨"HeaderWaysModel", "readsLink", "()V"⟩, 45), (⟨"HeaderWaysModel", "readLinkOf", "(II)I"⟩, 45), (⟨"HeaderWaysModel", "isLink", "(I)Z"⟩, 45), (⟨"HeaderWaysModel", "becomesUp", "(II)I"⟩, 45), (⟨"HeaderWaysModel", "notes", "()V"⟩, 45), (⟨"HeaderWaysModel", "isNode", "(I)Z"⟩, 45), (⟨"HeaderWaysModel", "lays", "(II)V"⟩, 45), (⟨"HeaderWaysModel", "length", "(II)I"⟩, 45), (⟨"HeaderWaysModel", "nextOf", "(IIII)I"⟩, 45), (⟨"HeaderWaysModel", "linkOf", "(II)I"⟩, 45)]
theorem lw_r3 : ∀ q ∈ lw_privs_3, lw_okq q := List.forall_mem_cons.mpr ⟨lw_p32, List.forall_mem_cons.mpr ⟨lw_p33, List.forall_mem_cons.mpr ⟨lw_p34, List.forall_mem_cons.mpr ⟨lw_p35, List.forall_mem_cons.mpr ⟨lw_p36, List.forall_mem_cons.mpr ⟨lw_p37, List.forall_mem_cons.mpr ⟨lw_p38, List.forall_mem_cons.mpr ⟨lw_p39, List.forall_mem_cons.mpr ⟨lw_p40, List.forall_mem_cons.mpr ⟨lw_p41, List.forall_mem_cons.mpr ⟨lw_p42, List.forall_mem_cons.mpr ⟨lw_p43, List.forall_mem_cons.mpr ⟨lw_p44, List.forall_mem_cons.mpr ⟨lw_p45, List.forall_mem_cons.mpr ⟨lw_p46, List.forall_mem_cons.mpr ⟨lw_p47, fun _ h => absurd h List.not_mem_nil⟩⟩⟩⟩⟩⟩⟩⟩⟩⟩⟩⟩⟩⟩⟩⟩
theorem lw_p48 : lw_okq (⟨"HeaderWaysModel", "walks", "(IIII)Z"⟩, 45) := ⟨⟨by decide +kernel, by decide +kernel⟩, List.mem_of_getElem? (i := 897) (by decide +kernel), List.mem_of_getElem? (i := 1180) (by decide +kernel), List.mem_of_getElem? (i := 1181) (by decide +kernel)⟩
theorem lw_p49 : lw_okq (⟨"HeaderWaysModel", "isOver", "(I)Z"⟩, 45) := ⟨⟨by decide +kernel, by decide +kernel⟩, List.mem_of_getElem? (i := 897) (by decide +kernel), List.mem_of_getElem? (i := 1184) (by decide +kernel), List.mem_of_getElem? (i := 1185) (by decide +kernel)⟩
theorem lw_p50 : lw_okq (⟨"HeaderWaysModel", "laysGoes", "()V"⟩, 45) := ⟨⟨by decide +kernel, by decide +kernel⟩, List.mem_of_getElem? (i := 897) (by decide +kernel), List.mem_of_getElem? (i := 1192) (by decide +kernel), List.mem_of_getElem? (i := 1193) (by decide +kernel)⟩
theorem lw_p51 : lw_okq (⟨"HeaderWaysModel", "ringsOf", "(II)I"⟩, 45) := ⟨⟨by decide +kernel, by decide +kernel⟩, List.mem_of_getElem? (i := 897) (by decide +kernel), List.mem_of_getElem? (i := 1196) (by decide +kernel), List.mem_of_getElem? (i := 1197) (by decide +kernel)⟩
theorem lw_p52 : lw_okq (⟨"HeaderWaysModel", "isSafe", "(I)Z"⟩, 45) := ⟨⟨by decide +kernel, by decide +kernel⟩, List.mem_of_getElem? (i := 897) (by decide +kernel), List.mem_of_getElem? (i := 1204) (by decide +kernel), List.mem_of_getElem? (i := 1205) (by decide +kernel)⟩
theorem lw_p53 : lw_okq (⟨"HeaderWaysModel", "behind", "()I"⟩, 45) := ⟨⟨by decide +kernel, by decide +kernel⟩, List.mem_of_getElem? (i := 897) (by decide +kernel), List.mem_of_getElem? (i := 1212) (by decide +kernel), List.mem_of_getElem? (i := 1213) (by decide +kernel)⟩
theorem lw_p54 : lw_okq (⟨"HeaderWaysModel", "laysOrders", "(I)V"⟩, 45) := ⟨⟨by decide +kernel, by decide +kernel⟩, List.mem_of_getElem? (i := 897) (by decide +kernel), List.mem_of_getElem? (i := 1216) (by decide +kernel), List.mem_of_getElem? (i := 1217) (by decide +kernel)⟩
theorem lw_p55 : lw_okq (⟨"HeaderWaysModel", "repairs", "(III)Z"⟩, 45) := ⟨⟨by decide +kernel, by decide +kernel⟩, List.mem_of_getElem? (i := 897) (by decide +kernel), List.mem_of_getElem? (i := 1236) (by decide +kernel), List.mem_of_getElem? (i := 1237) (by decide +kernel)⟩
theorem lw_p56 : lw_okq (⟨"HeaderWaysModel", "shortens", "([IIII)Z"⟩, 45) := ⟨⟨by decide +kernel, by decide +kernel⟩, List.mem_of_getElem? (i := 897) (by decide +kernel), List.mem_of_getElem? (i := 1240) (by decide +kernel), List.mem_of_getElem? (i := 1241) (by decide +kernel)⟩
theorem lw_p57 : lw_okq (⟨"HeaderWaysModel", "laysBy", "([IIII)V"⟩, 45) := ⟨⟨by decide +kernel, by decide +kernel⟩, List.mem_of_getElem? (i := 897) (by decide +kernel), List.mem_of_getElem? (i := 1244) (by decide +kernel), List.mem_of_getElem? (i := 1245) (by decide +kernel)⟩
theorem lw_p58 : lw_okq (⟨"HeaderWaysModel", "leads", "([IIIII)Z"⟩, 45) := ⟨⟨by decide +kernel, by decide +kernel⟩, List.mem_of_getElem? (i := 897) (by decide +kernel), List.mem_of_getElem? (i := 1248) (by decide +kernel), List.mem_of_getElem? (i := 1249) (by decide +kernel)⟩
theorem lw_p59 : lw_okq (⟨"HeaderWaysModel", "shortAt", "(I)I"⟩, 45) := ⟨⟨by decide +kernel, by decide +kernel⟩, List.mem_of_getElem? (i := 897) (by decide +kernel), List.mem_of_getElem? (i := 1252) (by decide +kernel), List.mem_of_getElem? (i := 1253) (by decide +kernel)⟩
theorem lw_p60 : lw_okq (⟨"HeaderWaysModel", "briefs", "()Z"⟩, 45) := ⟨⟨by decide +kernel, by decide +kernel⟩, List.mem_of_getElem? (i := 897) (by decide +kernel), List.mem_of_getElem? (i := 1268) (by decide +kernel), List.mem_of_getElem? (i := 1269) (by decide +kernel)⟩
theorem lw_p61 : lw_okq (⟨"HeaderWaysModel", "bears", "(II)V"⟩, 45) := ⟨⟨by decide +kernel, by decide +kernel⟩, List.mem_of_getElem? (i := 897) (by decide +kernel), List.mem_of_getElem? (i := 1284) (by decide +kernel), List.mem_of_getElem? (i := 1285) (by decide +kernel)⟩
theorem lw_p62 : lw_okq (⟨"HeaderWaysModel", "goesFrom", "(I)I"⟩, 45) := ⟨⟨by decide +kernel, by decide +kernel⟩, List.mem_of_getElem? (i := 897) (by decide +kernel), List.mem_of_getElem? (i := 1288) (by decide +kernel), List.mem_of_getElem? (i := 1289) (by decide +kernel)⟩
theorem lw_p63 : lw_okq (⟨"HeaderWaysModel", "leavesOwn", "(I)V"⟩, 45) := ⟨⟨by decide +kernel, by decide +kernel⟩, List.mem_of_getElem? (i := 897) (by decide +kernel), List.mem_of_getElem? (i := 1292) (by decide +kernel), List.mem_of_getElem? (i := 1293) (by decide +kernel)⟩
def lw_privs_4 : List (MethodName × Nat) := [(⟨"HeaderWaysModel", "walks", "(IIII)Z"⟩, 45), (⟨"HeaderWaysModel", "isOver", "(I)Z"⟩, 45), (⟨"HeaderWaysModel", "laysGoes", "()V"⟩, 45), (⟨"HeaderWaysModel", "ringsOf", "(II)I"⟩, 45), (⟨"HeaderWaysModel", "isSafe", "(I)Z"⟩, 45), (⟨"HeaderWaysModel", "behind", "()I"⟩, 45), (⟨"HeaderWaysModel", "laysOrders", "(I)V"⟩, 45), (⟨"HeaderWaysModel", "repairs", "(III)Z"⟩, 45), (⟨"HeaderWaysModel", "shortens", "([IIII)Z"⟩, 45), (⟨"HeaderWaysModel", "laysBy", "([IIII)V"⟩, 45), (⟨"HeaderWaysModel", "leads", "([IIIII)Z"⟩, 45), (⟨"HeaderWaysModel", "shortAt", "(I)I"⟩, 45), (⟨"HeaderWaysModel", "briefs", "()Z"⟩, 45), (⟨"HeaderWaysModel", "bears", "(II)V"⟩, 45), (⟨"HeaderWaysModel", "goesFrom", "(I)I"⟩, 45), (⟨"HeaderWaysModel", "leavesOwn", "(I)V"⟩, 45)]
theorem lw_r4 : ∀ q ∈ lw_privs_4, lw_okq q := List.forall_mem_cons.mpr ⟨lw_p48, List.forall_mem_cons.mpr ⟨lw_p49, List.forall_mem_cons.mpr ⟨lw_p50, List.forall_mem_cons.mpr ⟨lw_p51, List.forall_mem_cons.mpr ⟨lw_p52, List.forall_mem_cons.mpr ⟨lw_p53, List.forall_mem_cons.mpr ⟨lw_p54, List.forall_mem_cons.mpr ⟨lw_p55, List.forall_mem_cons.mpr ⟨lw_p56, List.forall_mem_cons.mpr ⟨lw_p57, List.forall_mem_cons.mpr ⟨lw_p58, List.forall_mem_cons.mpr ⟨lw_p59, List.forall_mem_cons.mpr ⟨lw_p60, List.forall_mem_cons.mpr ⟨lw_p61, List.forall_mem_cons.mpr ⟨lw_p62, List.forall_mem_cons.mpr ⟨lw_p63, fun _ h => absurd h List.not_mem_nil⟩⟩⟩⟩⟩⟩⟩⟩⟩⟩⟩⟩⟩⟩⟩⟩
theorem lw_p64 : lw_okq (⟨"HeaderWaysModel", "linkFrom", "(I)I"⟩, 45) := ⟨⟨by decide +kernel, by decide +kernel⟩, List.mem_of_getElem? (i := 897) (by decide +kernel), List.mem_of_getElem? (i := 1296) (by decide +kernel), List.mem_of_getElem? (i := 1297) (by decide +kernel)⟩
theorem lw_p65 : lw_okq (⟨"HeaderWaysModel", "otherEnd", "(II)I"⟩, 45) := ⟨⟨by decide +kernel, by decide +kernel⟩, List.mem_of_getElem? (i := 897) (by decide +kernel), List.mem_of_getElem? (i := 1300) (by decide +kernel), List.mem_of_getElem? (i := 1301) (by decide +kernel)⟩
theorem lw_p66 : lw_okq (⟨"HeaderWaysModel", "mends", "(II)Z"⟩, 45) := ⟨⟨by decide +kernel, by decide +kernel⟩, List.mem_of_getElem? (i := 897) (by decide +kernel), List.mem_of_getElem? (i := 1304) (by decide +kernel), List.mem_of_getElem? (i := 1305) (by decide +kernel)⟩
def lw_privs_5 : List (MethodName × Nat) := [(⟨"HeaderWaysModel", "linkFrom", "(I)I"⟩, 45), (⟨"HeaderWaysModel", "otherEnd", "(II)I"⟩, 45), (⟨"HeaderWaysModel", "mends", "(II)Z"⟩, 45)]
theorem lw_r5 : ∀ q ∈ lw_privs_5, lw_okq q := List.forall_mem_cons.mpr ⟨lw_p64, List.forall_mem_cons.mpr ⟨lw_p65, List.forall_mem_cons.mpr ⟨lw_p66, fun _ h => absurd h List.not_mem_nil⟩⟩⟩
def lw_privs : List (MethodName × Nat) := lw_privs_1 ++ (lw_privs_2 ++ (lw_privs_3 ++ (lw_privs_4 ++ (lw_privs_5))))
def lw_tbl : List Cond := k2_sels lw_privs ++ tables_1
theorem lw_privs_ok : ∀ q ∈ lw_privs, lw_okq q := by
  show ∀ q ∈ lw_privs_1 ++ (lw_privs_2 ++ (lw_privs_3 ++ (lw_privs_4 ++ (lw_privs_5)))), lw_okq q
  exact List.forall_mem_append.mpr ⟨lw_r1, List.forall_mem_append.mpr ⟨lw_r2, List.forall_mem_append.mpr ⟨lw_r3, List.forall_mem_append.mpr ⟨lw_r4, lw_r5⟩⟩⟩⟩

theorem x_in0 {big : List Cond} {w : Cond} (i : Nat) (h : big[i]? = some w) (g : goodWord w = true) : w ∈ big.filter goodWord := List.mem_filter.mpr ⟨List.mem_of_getElem? h, g⟩
/-- the words that every method here is said over -/
def x_GW : List Cond := lw_tbl.filter goodWord
def RX0 : String := "HeaderWays$Briefs"
def TX0 : u_T := fun k => match k with
  | 0 => ("HeaderWays$Briefs", "net", "LHeaderWays$Net;", true)
  | 1 => ("HeaderWays$Briefs", "routes", "LHeaderWays$Routes;", true)
  | 2 => ("HeaderWays$Briefs", "way", "LHeaderWays$Row;", true)
  | 3 => ("HeaderWays$Briefs", "alongCost", "[I", true)
  | 4 => ("HeaderWays$Briefs", "alongDelay", "[I", true)
  | 5 => ("HeaderWays$Briefs", "linksOn", "[I", true)
  | 6 => ("HeaderWays$Briefs", "fewest", "[I", true)
  | 7 => ("HeaderWays$Briefs", "goals", "[I", true)
  | 8 => ("HeaderWays$Briefs", "kinds", "[I", true)
  | _ => ("HeaderWays$Briefs", "found", "LHeaderWays$Segments;", true)
def tyX0 : Nat → FieldType := fun k => match k with
  | 0 => .object "HeaderWays$Net"
  | 1 => .object "HeaderWays$Routes"
  | 2 => .object "HeaderWays$Row"
  | 3 => .array .int
  | 4 => .array .int
  | 5 => .array .int
  | 6 => .array .int
  | 7 => .array .int
  | 8 => .array .int
  | _ => .object "HeaderWays$Segments"
theorem nmX0 : ∀ a, a < 10 → ∀ b, b < 10 → a ≠ b → (TX0 a).2.1 ≠ (TX0 b).2.1 := by decide +kernel
theorem tyX0_ok : ∀ k, k < 10 → parseFieldDescriptor (TX0 k).2.2.1 = some (tyX0 k) := by decide +kernel
def RX1 : String := "HeaderWays$Letters"
def TX1 : u_T := fun k => match k with
  | 0 => ("HeaderWays$Letters", "net", "LHeaderWays$Net;", true)
  | 1 => ("HeaderWays$Letters", "routes", "LHeaderWays$Routes;", true)
  | 2 => ("HeaderWays$Letters", "briefs", "LHeaderWays$Briefs;", true)
  | 3 => ("HeaderWays$Letters", "borne", "LHeaderWays$Segments;", true)
  | 4 => ("HeaderWays$Letters", "passed", "LHeaderWays$Row;", true)
  | 5 => ("HeaderWays$Letters", "protection", "I", false)
  | 6 => ("HeaderWays$Letters", "sent", "I", false)
  | 7 => ("HeaderWays$Letters", "there", "I", false)
  | 8 => ("HeaderWays$Letters", "mended", "I", false)
  | 9 => ("HeaderWays$Letters", "lost", "I", false)
  | _ => ("HeaderWays$Letters", "lastMended", "Z", false)
def tyX1 : Nat → FieldType := fun k => match k with
  | 0 => .object "HeaderWays$Net"
  | 1 => .object "HeaderWays$Routes"
  | 2 => .object "HeaderWays$Briefs"
  | 3 => .object "HeaderWays$Segments"
  | 4 => .object "HeaderWays$Row"
  | 5 => .int
  | 6 => .int
  | 7 => .int
  | 8 => .int
  | 9 => .int
  | _ => .boolean
theorem nmX1 : ∀ a, a < 11 → ∀ b, b < 11 → a ≠ b → (TX1 a).2.1 ≠ (TX1 b).2.1 := by decide +kernel
theorem tyX1_ok : ∀ k, k < 11 → parseFieldDescriptor (TX1 k).2.2.1 = some (tyX1 k) := by decide +kernel
def RX2 : String := "HeaderWays$Net"
def TX2 : u_T := fun k => match k with
  | 0 => ("HeaderWays$Net", "nodes", "I", false)
  | 1 => ("HeaderWays$Net", "links", "I", false)
  | 2 => ("HeaderWays$Net", "up", "I", false)
  | 3 => ("HeaderWays$Net", "low", "[I", true)
  | 4 => ("HeaderWays$Net", "high", "[I", true)
  | 5 => ("HeaderWays$Net", "cost", "[I", true)
  | 6 => ("HeaderWays$Net", "delay", "[I", true)
  | 7 => ("HeaderWays$Net", "crossed", "[I", true)
  | _ => ("HeaderWays$Net", "seen", "[I", true)
def tyX2 : Nat → FieldType := fun k => match k with
  | 0 => .int
  | 1 => .int
  | 2 => .int
  | 3 => .array .int
  | 4 => .array .int
  | 5 => .array .int
  | 6 => .array .int
  | 7 => .array .int
  | _ => .array .int
theorem nmX2 : ∀ a, a < 9 → ∀ b, b < 9 → a ≠ b → (TX2 a).2.1 ≠ (TX2 b).2.1 := by decide +kernel
theorem tyX2_ok : ∀ k, k < 9 → parseFieldDescriptor (TX2 k).2.2.1 = some (tyX2 k) := by decide +kernel
def RX3 : String := "HeaderWays$Past"
def TX3 : u_T := fun k => match k with
  | 0 => ("HeaderWays$Past", "net", "LHeaderWays$Net;", true)
  | 1 => ("HeaderWays$Past", "changes", "[I", true)
  | 2 => ("HeaderWays$Past", "places", "[I", true)
  | 3 => ("HeaderWays$Past", "firsts", "[I", true)
  | 4 => ("HeaderWays$Past", "seconds", "[I", true)
  | 5 => ("HeaderWays$Past", "ahead", "I", false)
  | _ => ("HeaderWays$Past", "size", "I", false)
def tyX3 : Nat → FieldType := fun k => match k with
  | 0 => .object "HeaderWays$Net"
  | 1 => .array .int
  | 2 => .array .int
  | 3 => .array .int
  | 4 => .array .int
  | 5 => .int
  | _ => .int
theorem nmX3 : ∀ a, a < 7 → ∀ b, b < 7 → a ≠ b → (TX3 a).2.1 ≠ (TX3 b).2.1 := by decide +kernel
theorem tyX3_ok : ∀ k, k < 7 → parseFieldDescriptor (TX3 k).2.2.1 = some (tyX3 k) := by decide +kernel
def RX4 : String := "HeaderWays$Rounds"
def TX4 : u_T := fun k => match k with
  | 0 => ("HeaderWays$Rounds", "net", "LHeaderWays$Net;", true)
  | 1 => ("HeaderWays$Rounds", "routes", "LHeaderWays$Routes;", true)
  | 2 => ("HeaderWays$Rounds", "aheadSeen", "[I", true)
  | 3 => ("HeaderWays$Rounds", "aheadUp", "[I", true)
  | 4 => ("HeaderWays$Rounds", "closed", "[Z", true)
  | _ => ("HeaderWays$Rounds", "order", "LHeaderWays$Row;", true)
def tyX4 : Nat → FieldType := fun k => match k with
  | 0 => .object "HeaderWays$Net"
  | 1 => .object "HeaderWays$Routes"
  | 2 => .array .int
  | 3 => .array .int
  | 4 => .array .boolean
  | _ => .object "HeaderWays$Row"
theorem nmX4 : ∀ a, a < 6 → ∀ b, b < 6 → a ≠ b → (TX4 a).2.1 ≠ (TX4 b).2.1 := by decide +kernel
theorem tyX4_ok : ∀ k, k < 6 → parseFieldDescriptor (TX4 k).2.2.1 = some (tyX4 k) := by decide +kernel
def RX5 : String := "HeaderWays$Routes"
def TX5 : u_T := fun k => match k with
  | 0 => ("HeaderWays$Routes", "net", "LHeaderWays$Net;", true)
  | 1 => ("HeaderWays$Routes", "sums", "[I", true)
  | 2 => ("HeaderWays$Routes", "nodesAhead", "[I", true)
  | _ => ("HeaderWays$Routes", "linksAhead", "[I", true)
def tyX5 : Nat → FieldType := fun k => match k with
  | 0 => .object "HeaderWays$Net"
  | 1 => .array .int
  | 2 => .array .int
  | _ => .array .int
theorem nmX5 : ∀ a, a < 4 → ∀ b, b < 4 → a ≠ b → (TX5 a).2.1 ≠ (TX5 b).2.1 := by decide +kernel
theorem tyX5_ok : ∀ k, k < 4 → parseFieldDescriptor (TX5 k).2.2.1 = some (tyX5 k) := by decide +kernel
def RX6 : String := "HeaderWays$Row"
def TX6 : u_T := fun k => match k with
  | 0 => ("HeaderWays$Row", "nodes", "[I", true)
  | _ => ("HeaderWays$Row", "length", "I", false)
def tyX6 : Nat → FieldType := fun k => match k with
  | 0 => .array .int
  | _ => .int
theorem nmX6 : ∀ a, a < 2 → ∀ b, b < 2 → a ≠ b → (TX6 a).2.1 ≠ (TX6 b).2.1 := by decide +kernel
theorem tyX6_ok : ∀ k, k < 2 → parseFieldDescriptor (TX6 k).2.2.1 = some (tyX6 k) := by decide +kernel
def RX7 : String := "HeaderWays$Segments"
def TX7 : u_T := fun k => match k with
  | 0 => ("HeaderWays$Segments", "kinds", "[I", true)
  | 1 => ("HeaderWays$Segments", "whats", "[I", true)
  | _ => ("HeaderWays$Segments", "size", "I", false)
def tyX7 : Nat → FieldType := fun k => match k with
  | 0 => .array .int
  | 1 => .array .int
  | _ => .int
theorem nmX7 : ∀ a, a < 3 → ∀ b, b < 3 → a ≠ b → (TX7 a).2.1 ≠ (TX7 b).2.1 := by decide +kernel
theorem tyX7_ok : ∀ k, k < 3 → parseFieldDescriptor (TX7 k).2.2.1 = some (tyX7 k) := by decide +kernel
def RX8 : String := "HeaderWays$Text"
def TX8 : u_T := fun k => match k with
  | 0 => ("HeaderWays$Text", "net", "LHeaderWays$Net;", true)
  | 1 => ("HeaderWays$Text", "letters", "[I", true)
  | 2 => ("HeaderWays$Text", "length", "I", false)
  | 3 => ("HeaderWays$Text", "clauses", "I", false)
  | 4 => ("HeaderWays$Text", "numbers", "[I", true)
  | 5 => ("HeaderWays$Text", "begin", "I", false)
  | 6 => ("HeaderWays$Text", "end", "I", false)
  | 7 => ("HeaderWays$Text", "nodes", "I", false)
  | _ => ("HeaderWays$Text", "pairs", "J", false)
def tyX8 : Nat → FieldType := fun k => match k with
  | 0 => .object "HeaderWays$Net"
  | 1 => .array .int
  | 2 => .int
  | 3 => .int
  | 4 => .array .int
  | 5 => .int
  | 6 => .int
  | 7 => .int
  | _ => .long
theorem nmX8 : ∀ a, a < 9 → ∀ b, b < 9 → a ≠ b → (TX8 a).2.1 ≠ (TX8 b).2.1 := by decide +kernel
theorem tyX8_ok : ∀ k, k < 9 → parseFieldDescriptor (TX8 k).2.2.1 = some (tyX8 k) := by decide +kernel
def RX9 : String := "HeaderWays"
def TX9 : u_T := fun k => match k with
  | 0 => ("HeaderWays", "net", "LHeaderWays$Net;", true)
  | 1 => ("HeaderWays", "text", "LHeaderWays$Text;", true)
  | 2 => ("HeaderWays", "past", "LHeaderWays$Past;", true)
  | 3 => ("HeaderWays", "routes", "LHeaderWays$Routes;", true)
  | 4 => ("HeaderWays", "rounds", "LHeaderWays$Rounds;", true)
  | 5 => ("HeaderWays", "list", "LHeaderWays$Segments;", true)
  | 6 => ("HeaderWays", "traced", "LHeaderWays$Row;", true)
  | 7 => ("HeaderWays", "briefs", "LHeaderWays$Briefs;", true)
  | _ => ("HeaderWays", "letters", "LHeaderWays$Letters;", true)
def tyX9 : Nat → FieldType := fun k => match k with
  | 0 => .object "HeaderWays$Net"
  | 1 => .object "HeaderWays$Text"
  | 2 => .object "HeaderWays$Past"
  | 3 => .object "HeaderWays$Routes"
  | 4 => .object "HeaderWays$Rounds"
  | 5 => .object "HeaderWays$Segments"
  | 6 => .object "HeaderWays$Row"
  | 7 => .object "HeaderWays$Briefs"
  | _ => .object "HeaderWays$Letters"
theorem nmX9 : ∀ a, a < 9 → ∀ b, b < 9 → a ≠ b → (TX9 a).2.1 ≠ (TX9 b).2.1 := by decide +kernel
theorem tyX9_ok : ∀ k, k < 9 → parseFieldDescriptor (TX9 k).2.2.1 = some (tyX9 k) := by decide +kernel
def RX10 : String := "HeaderWaysModel"
def TX10 : u_T := fun k => match k with
  | 0 => ("HeaderWaysModel", "n", "I", false)
  | 1 => ("HeaderWaysModel", "links", "I", false)
  | 2 => ("HeaderWaysModel", "low", "[I", true)
  | 3 => ("HeaderWaysModel", "high", "[I", true)
  | 4 => ("HeaderWaysModel", "goneOver", "[I", true)
  | 5 => ("HeaderWaysModel", "st", "[I", true)
  | 6 => ("HeaderWaysModel", "past", "[I", true)
  | 7 => ("HeaderWaysModel", "acts", "I", false)
  | 8 => ("HeaderWaysModel", "segments", "I", false)
  | 9 => ("HeaderWaysModel", "kindOf", "[I", true)
  | 10 => ("HeaderWaysModel", "whatOf", "[I", true)
  | 11 => ("HeaderWaysModel", "traced", "I", false)
  | 12 => ("HeaderWaysModel", "traceOf", "[I", true)
  | 13 => ("HeaderWaysModel", "isOn", "I", false)
  | 14 => ("HeaderWaysModel", "far", "[I", true)
  | 15 => ("HeaderWaysModel", "walked", "I", false)
  | 16 => ("HeaderWaysModel", "walk", "[I", true)
  | 17 => ("HeaderWaysModel", "by", "[I", true)
  | 18 => ("HeaderWaysModel", "fewest", "[I", true)
  | 19 => ("HeaderWaysModel", "shortMany", "I", false)
  | 20 => ("HeaderWaysModel", "shortKind", "[I", true)
  | 21 => ("HeaderWaysModel", "shortWhat", "[I", true)
  | 22 => ("HeaderWaysModel", "text", "[I", true)
  | 23 => ("HeaderWaysModel", "letters", "I", false)
  | 24 => ("HeaderWaysModel", "readAt", "I", false)
  | 25 => ("HeaderWaysModel", "tokenLong", "I", false)
  | 26 => ("HeaderWaysModel", "isFault", "Z", false)
  | 27 => ("HeaderWaysModel", "does", "Z", false)
  | 28 => ("HeaderWaysModel", "readN", "I", false)
  | 29 => ("HeaderWaysModel", "readLinks", "I", false)
  | 30 => ("HeaderWaysModel", "readLow", "[I", true)
  | 31 => ("HeaderWaysModel", "readHigh", "[I", true)
  | 32 => ("HeaderWaysModel", "goes", "[I", true)
  | 33 => ("HeaderWaysModel", "wouldGo", "[I", true)
  | 34 => ("HeaderWaysModel", "canGoOn", "[I", true)
  | 35 => ("HeaderWaysModel", "sent", "I", false)
  | 36 => ("HeaderWaysModel", "there", "I", false)
  | 37 => ("HeaderWaysModel", "mended", "I", false)
  | 38 => ("HeaderWaysModel", "lost", "I", false)
  | 39 => ("HeaderWaysModel", "isMended", "I", false)
  | 40 => ("HeaderWaysModel", "hops", "I", false)
  | 41 => ("HeaderWaysModel", "went", "[I", true)
  | 42 => ("HeaderWaysModel", "bears", "I", false)
  | 43 => ("HeaderWaysModel", "bearsKind", "[I", true)
  | _ => ("HeaderWaysModel", "bearsWhat", "[I", true)
def tyX10 : Nat → FieldType := fun k => match k with
  | 0 => .int
  | 1 => .int
  | 2 => .array .int
  | 3 => .array .int
  | 4 => .array .int
  | 5 => .array .int
  | 6 => .array .int
  | 7 => .int
  | 8 => .int
  | 9 => .array .int
  | 10 => .array .int
  | 11 => .int
  | 12 => .array .int
  | 13 => .int
  | 14 => .array .int
  | 15 => .int
  | 16 => .array .int
  | 17 => .array .int
  | 18 => .array .int
  | 19 => .int
  | 20 => .array .int
  | 21 => .array .int
  | 22 => .array .int
  | 23 => .int
  | 24 => .int
  | 25 => .int
  | 26 => .boolean
  | 27 => .boolean
  | 28 => .int
  | 29 => .int
  | 30 => .array .int
  | 31 => .array .int
  | 32 => .array .int
  | 33 => .array .int
  | 34 => .array .int
  | 35 => .int
  | 36 => .int
  | 37 => .int
  | 38 => .int
  | 39 => .int
  | 40 => .int
  | 41 => .array .int
  | 42 => .int
  | 43 => .array .int
  | _ => .array .int
theorem nmX10 : ∀ a, a < 45 → ∀ b, b < 45 → a ≠ b → (TX10 a).2.1 ≠ (TX10 b).2.1 := by decide +kernel
theorem tyX10_ok : ∀ k, k < 45 → parseFieldDescriptor (TX10 k).2.2.1 = some (tyX10 k) := by decide +kernel
def RJ6 : String := "java/lang/Integer"
def RJ13 : String := "java/lang/Long"
def RJ9 : String := "java/lang/Math"
def RJ0 : String := "java/lang/String"
def RJ1 : String := "java/lang/StringLatin1"
def RJ2 : String := "java/lang/StringUTF16"
def RJ7 : String := "java/util/Arrays"
def RJ3 : String := "jdk/internal/util/Preconditions"
def RL : String := "HeaderWaysLaw"
abbrev vwCl : List vw_C := [(RX0, TX0, 10), (RX1, TX1, 11), (RX2, TX2, 9), (RX3, TX3, 7), (RX4, TX4, 6), (RX5, TX5, 4), (RX6, TX6, 2), (RX7, TX7, 3), (RX8, TX8, 9), (RX9, TX9, 9), (RX10, TX10, 45)]
def x_R : Nat → String := fun k => match k with
  | 0 => RX0
  | 1 => RX1
  | 2 => RX2
  | 3 => RX3
  | 4 => RX4
  | 5 => RX5
  | 6 => RX6
  | 7 => RX7
  | 8 => RX8
  | 9 => RX9
  | _ => RX10
def x_T : Nat → u_T := fun k => match k with
  | 0 => TX0
  | 1 => TX1
  | 2 => TX2
  | 3 => TX3
  | 4 => TX4
  | 5 => TX5
  | 6 => TX6
  | 7 => TX7
  | 8 => TX8
  | 9 => TX9
  | _ => TX10
def x_ty : Nat → Nat → FieldType := fun k => match k with
  | 0 => tyX0
  | 1 => tyX1
  | 2 => tyX2
  | 3 => tyX3
  | 4 => tyX4
  | 5 => tyX5
  | 6 => tyX6
  | 7 => tyX7
  | 8 => tyX8
  | 9 => tyX9
  | _ => tyX10
def x_N : Nat → Nat := fun k => match k with
  | 0 => 10
  | 1 => 11
  | 2 => 9
  | 3 => 7
  | 4 => 6
  | 5 => 4
  | 6 => 2
  | 7 => 3
  | 8 => 9
  | 9 => 9
  | _ => 45
theorem x_cases {P : Nat → Prop} (h : ∀ k, k < 11 → P k) : ∀ k, k < 11 → P k := h
theorem x_cl : ∀ k, k < 11 → vwCl[k]? = some (x_R k, x_T k, x_N k) := by
  intro k hk
  rcases (show k = 0 ∨ k = 1 ∨ k = 2 ∨ k = 3 ∨ k = 4 ∨ k = 5 ∨ k = 6 ∨ k = 7 ∨ k = 8 ∨ k = 9 ∨ k = 10 by omega) with rfl | rfl | rfl | rfl | rfl | rfl | rfl | rfl | rfl | rfl | rfl <;> rfl
theorem x_N64 : ∀ k, k < 11 → x_N k ≤ 64 := by decide +kernel
theorem x_tyok : ∀ c, c < 11 → ∀ k, k < x_N c → parseFieldDescriptor (x_T c k).2.2.1 = some (x_ty c k) := by decide +kernel
theorem x_nm : ∀ c, c < 11 → ∀ a, a < x_N c → ∀ b, b < x_N c → a ≠ b → (x_T c a).2.1 ≠ (x_T c b).2.1 := by decide +kernel
theorem x_own0 : ∀ c, c < 11 → ∀ k, k < x_N c → (x_T c k).1 = x_R c := by decide +kernel
def x_lp0 : Nat → List Nat := fun k => match k with
  | 0 => [335, 337, 339, 341, 343, 345, 347, 349, 351, 353]
  | 1 => [380, 382, 384, 386, 388, 390, 392, 394, 396, 398, 400]
  | 2 => [136, 138, 140, 142, 144, 146, 148, 150, 152]
  | 3 => [206, 208, 210, 212, 214, 216, 218]
  | 4 => [276, 278, 280, 282, 284, 286]
  | 5 => [231, 233, 235, 237]
  | 6 => [263, 265]
  | 7 => [304, 306, 308]
  | 8 => [173, 175, 177, 179, 181, 183, 185, 187, 189]
  | 9 => [412, 414, 416, 418, 420, 422, 424, 426, 428]
  | _ => [1014, 1016, 1018, 1020, 1022, 1024, 1026, 1028, 1030, 1032, 1034, 1036, 1038, 1040, 1042, 1044, 1046, 1048, 1050, 1052, 1054, 1056, 1058, 1060, 1062, 1064, 1066, 1068, 1070, 1072, 1074, 1076, 1078, 1080, 1082, 1084, 1086, 1088, 1090, 1092, 1094, 1096, 1098, 1100, 1102]
theorem x_us0 : ∀ k, k < 10 → lw_tbl[(x_lp0 0).getD k 0]? = some (u_lay RX0 TX0 k) ∧ goodWord (u_lay RX0 TX0 k) = true := by decide +kernel
theorem x_us1 : ∀ k, k < 11 → lw_tbl[(x_lp0 1).getD k 0]? = some (u_lay RX1 TX1 k) ∧ goodWord (u_lay RX1 TX1 k) = true := by decide +kernel
theorem x_us2 : ∀ k, k < 9 → lw_tbl[(x_lp0 2).getD k 0]? = some (u_lay RX2 TX2 k) ∧ goodWord (u_lay RX2 TX2 k) = true := by decide +kernel
theorem x_us3 : ∀ k, k < 7 → lw_tbl[(x_lp0 3).getD k 0]? = some (u_lay RX3 TX3 k) ∧ goodWord (u_lay RX3 TX3 k) = true := by decide +kernel
theorem x_us4 : ∀ k, k < 6 → lw_tbl[(x_lp0 4).getD k 0]? = some (u_lay RX4 TX4 k) ∧ goodWord (u_lay RX4 TX4 k) = true := by decide +kernel
theorem x_us5 : ∀ k, k < 4 → lw_tbl[(x_lp0 5).getD k 0]? = some (u_lay RX5 TX5 k) ∧ goodWord (u_lay RX5 TX5 k) = true := by decide +kernel
theorem x_us6 : ∀ k, k < 2 → lw_tbl[(x_lp0 6).getD k 0]? = some (u_lay RX6 TX6 k) ∧ goodWord (u_lay RX6 TX6 k) = true := by decide +kernel
theorem x_us7 : ∀ k, k < 3 → lw_tbl[(x_lp0 7).getD k 0]? = some (u_lay RX7 TX7 k) ∧ goodWord (u_lay RX7 TX7 k) = true := by decide +kernel
theorem x_us8 : ∀ k, k < 9 → lw_tbl[(x_lp0 8).getD k 0]? = some (u_lay RX8 TX8 k) ∧ goodWord (u_lay RX8 TX8 k) = true := by decide +kernel
theorem x_us9 : ∀ k, k < 9 → lw_tbl[(x_lp0 9).getD k 0]? = some (u_lay RX9 TX9 k) ∧ goodWord (u_lay RX9 TX9 k) = true := by decide +kernel
theorem x_us10 : ∀ k, k < 45 → lw_tbl[(x_lp0 10).getD k 0]? = some (u_lay RX10 TX10 k) ∧ goodWord (u_lay RX10 TX10 k) = true := by decide +kernel
theorem x_usG {C : String} {U : u_T} {n : Nat} {f : Nat → Nat} (h : ∀ k, k < n → lw_tbl[f k]? = some (u_lay C U k) ∧ goodWord (u_lay C U k) = true) : ∀ w ∈ u_ws C U n, w ∈ x_GW := by
  intro w hw
  obtain ⟨k, hk, rfl⟩ := List.mem_map.mp hw
  exact x_in0 _ (h k (List.mem_range.mp hk)).1 (h k (List.mem_range.mp hk)).2
theorem x_uw : ∀ c, c < 11 → ∀ w ∈ u_ws (x_R c) (x_T c) (x_N c), w ∈ x_GW := by
  intro k hk
  rcases (show k = 0 ∨ k = 1 ∨ k = 2 ∨ k = 3 ∨ k = 4 ∨ k = 5 ∨ k = 6 ∨ k = 7 ∨ k = 8 ∨ k = 9 ∨ k = 10 by omega) with rfl | rfl | rfl | rfl | rfl | rfl | rfl | rfl | rfl | rfl | rfl
  · exact x_usG x_us0
  · exact x_usG x_us1
  · exact x_usG x_us2
  · exact x_usG x_us3
  · exact x_usG x_us4
  · exact x_usG x_us5
  · exact x_usG x_us6
  · exact x_usG x_us7
  · exact x_usG x_us8
  · exact x_usG x_us9
  · exact x_usG x_us10
theorem x_ins0 : Cond.instantiable RX0 10 ∈ x_GW ∧ Cond.initialized RX0 ∈ x_GW := ⟨x_in0 314 (by decide +kernel) (by decide +kernel), x_in0 77 (by decide +kernel) (by decide +kernel)⟩
theorem x_ins1 : Cond.instantiable RX1 11 ∈ x_GW ∧ Cond.initialized RX1 ∈ x_GW := ⟨x_in0 357 (by decide +kernel) (by decide +kernel), x_in0 78 (by decide +kernel) (by decide +kernel)⟩
theorem x_ins2 : Cond.instantiable RX2 9 ∈ x_GW ∧ Cond.initialized RX2 ∈ x_GW := ⟨x_in0 96 (by decide +kernel) (by decide +kernel), x_in0 69 (by decide +kernel) (by decide +kernel)⟩
theorem x_ins3 : Cond.instantiable RX3 7 ∈ x_GW ∧ Cond.initialized RX3 ∈ x_GW := ⟨x_in0 193 (by decide +kernel) (by decide +kernel), x_in0 71 (by decide +kernel) (by decide +kernel)⟩
theorem x_ins4 : Cond.instantiable RX4 6 ∈ x_GW ∧ Cond.initialized RX4 ∈ x_GW := ⟨x_in0 241 (by decide +kernel) (by decide +kernel), x_in0 73 (by decide +kernel) (by decide +kernel)⟩
theorem x_ins5 : Cond.instantiable RX5 4 ∈ x_GW ∧ Cond.initialized RX5 ∈ x_GW := ⟨x_in0 222 (by decide +kernel) (by decide +kernel), x_in0 72 (by decide +kernel) (by decide +kernel)⟩
theorem x_ins6 : Cond.instantiable RX6 2 ∈ x_GW ∧ Cond.initialized RX6 ∈ x_GW := ⟨x_in0 247 (by decide +kernel) (by decide +kernel), x_in0 74 (by decide +kernel) (by decide +kernel)⟩
theorem x_ins7 : Cond.instantiable RX7 3 ∈ x_GW ∧ Cond.initialized RX7 ∈ x_GW := ⟨x_in0 290 (by decide +kernel) (by decide +kernel), x_in0 76 (by decide +kernel) (by decide +kernel)⟩
theorem x_ins8 : Cond.instantiable RX8 9 ∈ x_GW ∧ Cond.initialized RX8 ∈ x_GW := ⟨x_in0 157 (by decide +kernel) (by decide +kernel), x_in0 70 (by decide +kernel) (by decide +kernel)⟩
theorem x_ins9 : Cond.instantiable RX9 9 ∈ x_GW ∧ Cond.initialized RX9 ∈ x_GW := ⟨x_in0 88 (by decide +kernel) (by decide +kernel), x_in0 68 (by decide +kernel) (by decide +kernel)⟩
theorem x_ins10 : Cond.instantiable RX10 45 ∈ x_GW ∧ Cond.initialized RX10 ∈ x_GW := ⟨x_in0 964 (by decide +kernel) (by decide +kernel), x_in0 79 (by decide +kernel) (by decide +kernel)⟩
theorem x_arrI : Cond.arrayClass .int ∈ x_GW := x_in0 155 (by decide +kernel) (by decide +kernel)
theorem x_arrZ : Cond.arrayClass .boolean ∈ x_GW := x_in0 268 (by decide +kernel) (by decide +kernel)
theorem x_obj : Cond.instanceMethod objectInit ∈ x_GW ∧ Cond.code objectInit ⟨#[0xb1]⟩ 1 none ∈ x_GW := ⟨x_in0 93 (by decide +kernel) (by decide +kernel), x_in0 94 (by decide +kernel) (by decide +kernel)⟩
end
section
/-! ===== THE PURE MACHINE. A world is a list of shapes (0, c: an object of class c; 1, n: an int array; 2, n: a boolean array); what is in it: ints by region and place, longs and references by region. The region of object k's field j is 64 * k + j (place 0), that of array k is 64 * k. A reference is a number: below 1000000 a place in the list of shapes, from there on something that lay there before (texts, the script). ===== -/
abbrev x_M : Type := List (Nat × Nat) × (Nat → Nat → Int32) × (Nat → Int64) × (Nat → Option Nat)
/-- a method: its class, name, code, locals, answer; the room that it asks: frames, words of locals, cells, slots -/
abbrev x_Mth : Type := String × MethodName × ByteArray × Nat × Option FieldType × Nat × Nat × Nat × Nat
abbrev x_own (m : x_Mth) : String := m.1
abbrev x_y (m : x_Mth) : MethodName := m.2.1
abbrev x_code (m : x_Mth) : ByteArray := m.2.2.1
abbrev x_maxL (m : x_Mth) : Nat := m.2.2.2.1
abbrev x_ret (m : x_Mth) : Option FieldType := m.2.2.2.2.1
abbrev x_fr (m : x_Mth) : Nat := m.2.2.2.2.2.1
abbrev x_lo (m : x_Mth) : Nat := m.2.2.2.2.2.2.1
abbrev x_mc (m : x_Mth) : Nat := m.2.2.2.2.2.2.2.1
abbrev x_ms (m : x_Mth) : Nat := m.2.2.2.2.2.2.2.2
def x_room (m : x_Mth) : Room := { frames := x_fr m, cells := x_mc m, slots := x_ms m, locals := x_lo m }
def x_ad (al ae : Nat → Nat) : Nat → Nat := fun k => if k < 1000000 then al k else ae k
def x_cv (ad : Nat → Nat) : Value → Value
  | .ref k => .ref (ad k)
  | v => v
theorem x_cv_cat (ad : Nat → Nat) (v : Value) : (x_cv ad v).category = v.category := by cases v <;> rfl
def x_lp (ad : Nat → Nat) (ls : List (Nat × Value)) : List (Nat × Value) := ls.map fun q => (q.1, x_cv ad q.2)
/-- a field's value, by its type -/
def x_fa (ty : FieldType) (K : (Nat → Nat → Int32) × (Nat → Int64) × (Nat → Option Nat)) (r : Nat) : Value := match ty with
  | .long => .long (K.2.1 r)
  | .object _ => (match K.2.2 r with | none => .null | some k => .ref k)
  | .array _ => (match K.2.2 r with | none => .null | some k => .ref k)
  | _ => .int (K.1 r 0)
def x_ent (cI cZ : ClassId) (ad : Nat → Nat) (K : (Nat → Nat → Int32) × (Nat → Int64) × (Nat → Option Nat)) (k : Nat) (q : Nat × Nat) : va_E := match q.1 with
  | 0 => .inr (q.2, (List.range (x_N q.2)).map fun j => x_cv ad (x_fa (x_ty q.2 j) K (64 * k + j)))
  | 1 => .inl (cI, q.2, .inl (K.1 (64 * k)))
  | _ => .inl (cZ, q.2, .inl (K.1 (64 * k)))
def x_ws (cI cZ : ClassId) (ad : Nat → Nat) (M : x_M) : va_W := M.1.mapIdx fun k q => (ad k, x_ent cI cZ ad M.2 k q)
theorem x_ws_get {cI cZ : ClassId} {ad : Nat → Nat} {M : x_M} {k : Nat} {q : Nat × Nat} (h : M.1[k]? = some q) : (x_ws cI cZ ad M)[k]? = some (ad k, x_ent cI cZ ad M.2 k q) := by
  simp [x_ws, List.getElem?_mapIdx, h]
/-- what every world keeps: few shapes of known classes; references lead to shapes; nothing lies beyond -/
def x_Ok (M : x_M) : Prop := M.1.length < 1000000 ∧ (∀ r k, M.2.2.2 r = some k → k < M.1.length) ∧ (∀ r, 64 * M.1.length ≤ r → M.2.1 r = (fun _ => 0) ∧ M.2.2.1 r = 0 ∧ M.2.2.2 r = none) ∧ ∀ k c : Nat, M.1[k]? = some (0, c) → c < 11
def x_Rep (D : va_G) (cI cZ : ClassId) (A : Nat → Prop) (ad : Nat → Nat) (M : x_M) (H0 H : Heap) (locs : List Loc) : Prop :=
  va_P D vwCl (x_ws cI cZ ad M) H ∧ va_D A (x_ws cI cZ ad M) ∧ va_S A H0 H locs ∧ x_Ok M
/-- what lay there before: the two texts (1000000, 1000001), their bytes (1000010, 1000011), a static -/
def x_Ext (ae : Nat → Nat) (A : Nat → Prop) (U : State) (H : Heap) : Prop :=
  vk_R RX8 68 "nodes" (ae 1000000) U ∧ vk_R RX8 76 "link" (ae 1000001) U ∧ vk_S 2 [5, 4] [[110, 111, 100, 101, 115], [108, 105, 110, 107]] (fun i => ae (1000000 + i)) (fun i => ae (1000010 + i)) A U H ∧ va_Z "java/lang/String" "COMPACT_STRINGS" "Z" (.int 1) A U H ∧ va_Nw (.methodLinkNest "HeaderWays" 9 ⟨"HeaderWays$Net", "<init>", "()V"⟩ "HeaderWays") U ∧
  (va_Z "jdk/internal/util/Preconditions" "SIOOBE_FORMATTER" "Ljava/util/function/BiFunction;" .null A U H ∨ va_Z "jdk/internal/util/Preconditions" "SIOOBE_FORMATTER" "Ljava/util/function/BiFunction;" (.ref (ae 1000030)) A U H)
theorem x_Ext.kept {ae : Nat → Nat} {A : Nat → Prop} {U : State} {H H1 : Heap} (h : x_Ext ae A U H) (hq : ∀ a : Nat, a < H.size → ¬ A a → H1[a]? = H[a]?) : x_Ext ae A U H1 :=
  ⟨h.1, h.2.1, h.2.2.1.kept hq, h.2.2.2.1.kept hq, h.2.2.2.2.1, h.2.2.2.2.2.elim (fun z => Or.inl (z.kept hq)) (fun z => Or.inr (z.kept hq))⟩
theorem x_Ext.narrow {ae : Nat → Nat} {A B : Nat → Prop} {U : State} {H : Heap} (h : x_Ext ae A U H) (hAB : ∀ q, B q → A q) : x_Ext ae B U H :=
  ⟨h.1, h.2.1, h.2.2.1.narrow hAB, h.2.2.2.1.narrow hAB, h.2.2.2.2.1, h.2.2.2.2.2.elim (fun z => Or.inl (z.narrow hAB)) (fun z => Or.inr (z.narrow hAB))⟩
theorem x_Ext.warm {ae : Nat → Nat} {A : Nat → Prop} {s U : State} {H : Heap} (h : x_Ext ae A s H) (hW : s.WarmedH U.vm) : x_Ext ae A U H :=
  ⟨h.1.warm hW, h.2.1.warm hW, h.2.2.1.moved hW.alike, h.2.2.2.1.moved hW.alike, va_Nw.warmM hW h.2.2.2.2.1, h.2.2.2.2.2.elim (fun z => Or.inl (z.moved hW.alike)) (fun z => Or.inr (z.moved hW.alike))⟩
theorem x_Ext.same {ae : Nat → Nat} {A : Nat → Prop} {s U : State} {H : Heap} (h : x_Ext ae A s H) (hv : U.vm = s.vm) : x_Ext ae A U H := by
  have ha : s.vm.Alike U.vm := by rw [hv]; exact Vm.Alike.refl _
  exact ⟨h.1.same hv, h.2.1.same hv, h.2.2.1.moved ha, h.2.2.2.1.moved ha, va_Nw.same rfl hv.symm h.2.2.2.2.1, h.2.2.2.2.2.elim (fun z => Or.inl (z.moved ha)) (fun z => Or.inr (z.moved ha))⟩
/-- what holds all through a method: the machine, its code, the words, the classes, what lay there before; a script, where it is the law (1000020) -/
def x_Ctx (scr : Option (Nat × (Nat → Int32))) (m : x_Mth) (p : Program) (s : State) (mi : MethodId) (args : Array Value) (meth : Method) (c : Code) (D : va_G) (cI cZ : ClassId) (A : Nat → Prop) (ae : Nat → Nat) : Prop :=
  p.tables.exec = Jvm.exec ∧ c.code = x_code m ∧ c.maxLocals = x_maxL m ∧ meth.sig.returnType = x_ret m ∧ meth.locks = false ∧ s.vm.findClass (x_own m) = some mi.cls ∧ meth.name = (x_y m).name ∧
  (∀ w ∈ x_GW, w.before args s = true) ∧ va_K D vwCl [(cI, .int), (cZ, .boolean)] s ∧ (∀ q, s.heap.size ≤ q → A q) ∧ x_Ext ae A s s.heap ∧ (∀ L xs, scr = some (L, xs) → va_X (ae 1000020) L xs s s.heap ∧ ae 1000020 < s.heap.size ∧ ¬ A (ae 1000020))
/-- the instruction at the end, for an answer -/
def x_retI (cc : ByteArray) (pc : Nat) (ret : Option FieldType) : Option Value → Prop
  | none => decode cc pc = .ok (.return_, 1) ∧ ret = none
  | some (.int v) => decode cc pc = .ok (.ireturn, 1) ∧ ∃ ty, ret = some ty ∧ narrow ty (.int v) = .int v
  | some (.long _) => decode cc pc = .ok (.lreturn, 1) ∧ ret = some .long
  | _ => False
/-- from a place of the method, with locals, stack and world, it comes to an end with Q of the answer and the world -/
def X (scr : Option (Nat × (Nat → Int32))) (m : x_Mth) (u : Nat × Nat) (pc : Nat) (ls : List (Nat × Value)) (st : List Value) (M : x_M) (Q : Option Value → x_M → Prop) : Prop :=
  ∀ (p : Program) (l : Launch) (e : Env) (s : State) (mi : MethodId) (args : Array Value) (below : List Frame) (meth : Method) (c : Code) (D : va_G) (cI cZ : ClassId) (A : Nat → Prop) (ae al : Nat → Nat) (H : Heap) (locs : List Loc) (lx : Array Slot) (Z : State → Prop),
    x_Ctx scr m p s mi args meth c D cI cZ A ae → x_Rep D cI cZ A (x_ad al ae) M s.heap H locs → lv_has lx (x_maxL m) (x_lp (x_ad al ae) ls) →
    (∀ (r : Option Value) (M' : x_M) (al' : Nat → Nat) (H' : Heap) (locs' : List Loc) (lx' : Array Slot) (pc' uc us : Nat), Q r M' → x_Rep D cI cZ A (x_ad al' ae) M' s.heap H' locs' → (∀ k, k < M.1.length ∨ M'.1.length ≤ k → al' k = al k) → M.1.length ≤ M'.1.length → M'.1.length + u.1 ≤ M.1.length + x_mc m →
      x_retI (x_code m) pc' (x_ret m) r → uc ≤ x_mc m → us ≤ x_ms m → W p l e (x_room m) s mi args below meth c H' locs' uc us Z (F0 mi pc' lx' ((r.map (x_cv (x_ad al' ae))).toList))) →
    u.1 ≤ x_mc m → u.2 ≤ x_ms m →
    W p l e (x_room m) s mi args below meth c H locs u.1 u.2 Z (F0 mi pc lx (st.map (x_cv (x_ad al ae))))
theorem x_mono {scr : Option (Nat × (Nat → Int32))} {m : x_Mth} {u : Nat × Nat} {pc : Nat} {ls : List (Nat × Value)} {st : List Value} {M : x_M} {Q Q' : Option Value → x_M → Prop} (h : X scr m u pc ls st M Q) (hq : ∀ r M', Q r M' → Q' r M') : X scr m u pc ls st M Q' := by
  intro p l e s mi args below meth c D cI cZ A ae al H locs lx Z C R hl hret h1 h2
  exact h p l e s mi args below meth c D cI cZ A ae al H locs lx Z C R hl (fun r M' al' H' locs' lx' pc' uc us q => hret r M' al' H' locs' lx' pc' uc us (hq r M' q)) h1 h2
/-- fewer locals are enough -/
theorem x_sub {scr : Option (Nat × (Nat → Int32))} {m : x_Mth} {u : Nat × Nat} {pc : Nat} {ls ls' : List (Nat × Value)} {st : List Value} {M : x_M} {Q : Option Value → x_M → Prop} (ks : List Nat) (hk : lv_pick ls ks = ls') (h : X scr m u pc ls' st M Q) : X scr m u pc ls st M Q := by
  intro p l e s mi args below meth c D cI cZ A ae al H locs lx Z C R hl hret h1 h2
  refine h p l e s mi args below meth c D cI cZ A ae al H locs lx Z C R (lv_sub hl ks ?_) hret h1 h2
  subst hk
  simp only [lv_pick, x_lp, List.map_filterMap, List.getElem?_map]
/-- an instruction that touches neither world nor locals -/
theorem x_W {scr : Option (Nat × (Nat → Int32))} {m : x_Mth} {u : Nat × Nat} {pc pc' : Nat} {ls : List (Nat × Value)} {st st' : List Value} {M : x_M} {Q : Option Value → x_M → Prop}
    (hw : ∀ (p : Program) (l : Launch) (e : Env) (s : State) (mi : MethodId) (args : Array Value) (below : List Frame) (meth : Method) (c : Code) (H : Heap) (locs : List Loc) (lx : Array Slot) (Z : State → Prop) (ad : Nat → Nat), p.tables.exec = Jvm.exec → c.code = x_code m → lv_has lx (x_maxL m) (x_lp ad ls) → s.vm.findClass (x_own m) = some mi.cls → (∀ w ∈ x_GW, w.before args s = true) →
      W p l e (x_room m) s mi args below meth c H locs u.1 u.2 Z (F0 mi pc' lx (st'.map (x_cv ad))) → W p l e (x_room m) s mi args below meth c H locs u.1 u.2 Z (F0 mi pc lx (st.map (x_cv ad))))
    (K : X scr m u pc' ls st' M Q) : X scr m u pc ls st M Q := by
  intro p l e s mi args below meth c D cI cZ A ae al H locs lx Z C R hl hret h1 h2
  exact hw p l e s mi args below meth c H locs lx Z (x_ad al ae) C.1 C.2.1 hl C.2.2.2.2.2.1 C.2.2.2.2.2.2.2.1 (K p l e s mi args below meth c D cI cZ A ae al H locs lx Z C R hl hret h1 h2)
end
section
/-! ===== single instructions over stack and locals ===== -/
theorem x_iadd {scr : Option (Nat × (Nat → Int32))} {m : x_Mth} {u : Nat × Nat} {pc : Nat} {ls : List (Nat × Value)} {st : List Value} {M : x_M} {Q : Option Value → x_M → Prop} {x y : Int32} (hd : decode (x_code m) pc = .ok (.iadd, 1))  (K : X scr m u (pc + 1) ls (.int (x + y) :: st) M Q) : X scr m u pc ls (.int y :: .int x :: st) M Q :=
  x_W (fun p l e s mi args below meth c H locs lx Z ad hx hb hl ho ht k => lv_iadd hx hb hd k) K
theorem x_isub {scr : Option (Nat × (Nat → Int32))} {m : x_Mth} {u : Nat × Nat} {pc : Nat} {ls : List (Nat × Value)} {st : List Value} {M : x_M} {Q : Option Value → x_M → Prop} {x y : Int32} (hd : decode (x_code m) pc = .ok (.isub, 1))  (K : X scr m u (pc + 1) ls (.int (x - y) :: st) M Q) : X scr m u pc ls (.int y :: .int x :: st) M Q :=
  x_W (fun p l e s mi args below meth c H locs lx Z ad hx hb hl ho ht k => lv_isub hx hb hd k) K
theorem x_imul {scr : Option (Nat × (Nat → Int32))} {m : x_Mth} {u : Nat × Nat} {pc : Nat} {ls : List (Nat × Value)} {st : List Value} {M : x_M} {Q : Option Value → x_M → Prop} {x y : Int32} (hd : decode (x_code m) pc = .ok (.imul, 1))  (K : X scr m u (pc + 1) ls (.int (x * y) :: st) M Q) : X scr m u pc ls (.int y :: .int x :: st) M Q :=
  x_W (fun p l e s mi args below meth c H locs lx Z ad hx hb hl ho ht k => lv_imul hx hb hd k) K
theorem x_iand {scr : Option (Nat × (Nat → Int32))} {m : x_Mth} {u : Nat × Nat} {pc : Nat} {ls : List (Nat × Value)} {st : List Value} {M : x_M} {Q : Option Value → x_M → Prop} {x y : Int32} (hd : decode (x_code m) pc = .ok (.iand, 1))  (K : X scr m u (pc + 1) ls (.int (x &&& y) :: st) M Q) : X scr m u pc ls (.int y :: .int x :: st) M Q :=
  x_W (fun p l e s mi args below meth c H locs lx Z ad hx hb hl ho ht k => lv_iand hx hb hd k) K
theorem x_ior {scr : Option (Nat × (Nat → Int32))} {m : x_Mth} {u : Nat × Nat} {pc : Nat} {ls : List (Nat × Value)} {st : List Value} {M : x_M} {Q : Option Value → x_M → Prop} {x y : Int32} (hd : decode (x_code m) pc = .ok (.ior, 1))  (K : X scr m u (pc + 1) ls (.int (x ||| y) :: st) M Q) : X scr m u pc ls (.int y :: .int x :: st) M Q :=
  x_W (fun p l e s mi args below meth c H locs lx Z ad hx hb hl ho ht k => lv_ior hx hb hd k) K
theorem x_ixor {scr : Option (Nat × (Nat → Int32))} {m : x_Mth} {u : Nat × Nat} {pc : Nat} {ls : List (Nat × Value)} {st : List Value} {M : x_M} {Q : Option Value → x_M → Prop} {x y : Int32} (hd : decode (x_code m) pc = .ok (.ixor, 1))  (K : X scr m u (pc + 1) ls (.int (x ^^^ y) :: st) M Q) : X scr m u pc ls (.int y :: .int x :: st) M Q :=
  x_W (fun p l e s mi args below meth c H locs lx Z ad hx hb hl ho ht k => lv_ixor hx hb hd k) K
theorem x_ishl {scr : Option (Nat × (Nat → Int32))} {m : x_Mth} {u : Nat × Nat} {pc : Nat} {ls : List (Nat × Value)} {st : List Value} {M : x_M} {Q : Option Value → x_M → Prop} {x y : Int32} (hd : decode (x_code m) pc = .ok (.ishl, 1))  (K : X scr m u (pc + 1) ls (.int (x <<< (y &&& 31)) :: st) M Q) : X scr m u pc ls (.int y :: .int x :: st) M Q :=
  x_W (fun p l e s mi args below meth c H locs lx Z ad hx hb hl ho ht k => lv_ishl hx hb hd k) K
theorem x_ishr {scr : Option (Nat × (Nat → Int32))} {m : x_Mth} {u : Nat × Nat} {pc : Nat} {ls : List (Nat × Value)} {st : List Value} {M : x_M} {Q : Option Value → x_M → Prop} {x y : Int32} (hd : decode (x_code m) pc = .ok (.ishr, 1))  (K : X scr m u (pc + 1) ls (.int (x >>> (y &&& 31)) :: st) M Q) : X scr m u pc ls (.int y :: .int x :: st) M Q :=
  x_W (fun p l e s mi args below meth c H locs lx Z ad hx hb hl ho ht k => lv_ishr hx hb hd k) K
theorem x_idiv {scr : Option (Nat × (Nat → Int32))} {m : x_Mth} {u : Nat × Nat} {pc : Nat} {ls : List (Nat × Value)} {st : List Value} {M : x_M} {Q : Option Value → x_M → Prop} {x y : Int32} (hd : decode (x_code m) pc = .ok (.idiv, 1)) (hn : ¬ y = 0) (K : X scr m u (pc + 1) ls (.int (x / y) :: st) M Q) : X scr m u pc ls (.int y :: .int x :: st) M Q :=
  x_W (fun p l e s mi args below meth c H locs lx Z ad hx hb hl ho ht k => lv_idiv hx hb hd hn k) K
theorem x_irem {scr : Option (Nat × (Nat → Int32))} {m : x_Mth} {u : Nat × Nat} {pc : Nat} {ls : List (Nat × Value)} {st : List Value} {M : x_M} {Q : Option Value → x_M → Prop} {x y : Int32} (hd : decode (x_code m) pc = .ok (.irem, 1)) (hn : ¬ y = 0) (K : X scr m u (pc + 1) ls (.int (x - x / y * y) :: st) M Q) : X scr m u pc ls (.int y :: .int x :: st) M Q :=
  x_W (fun p l e s mi args below meth c H locs lx Z ad hx hb hl ho ht k => lv_irem hx hb hd hn k) K
theorem x_iushr {scr : Option (Nat × (Nat → Int32))} {m : x_Mth} {u : Nat × Nat} {pc : Nat} {ls : List (Nat × Value)} {st : List Value} {M : x_M} {Q : Option Value → x_M → Prop} {x y : Int32} (hd : decode (x_code m) pc = .ok (.iushr, 1))  (K : X scr m u (pc + 1) ls (.int ((x.toUInt32 >>> (y.toUInt32 &&& Int32.toUInt32 31)).toInt32) :: st) M Q) : X scr m u pc ls (.int y :: .int x :: st) M Q :=
  x_W (fun p l e s mi args below meth c H locs lx Z ad hx hb hl ho ht k => lv_iushr hx hb hd rfl k) K
theorem x_ladd {scr : Option (Nat × (Nat → Int32))} {m : x_Mth} {u : Nat × Nat} {pc : Nat} {ls : List (Nat × Value)} {st : List Value} {M : x_M} {Q : Option Value → x_M → Prop} {x y : Int64} (hd : decode (x_code m) pc = .ok (.ladd, 1))  (K : X scr m u (pc + 1) ls (.long (x + y) :: st) M Q) : X scr m u pc ls (.long y :: .long x :: st) M Q :=
  x_W (fun p l e s mi args below meth c H locs lx Z ad hx hb hl ho ht k => lv_ladd hx hb hd k) K
theorem x_lsub {scr : Option (Nat × (Nat → Int32))} {m : x_Mth} {u : Nat × Nat} {pc : Nat} {ls : List (Nat × Value)} {st : List Value} {M : x_M} {Q : Option Value → x_M → Prop} {x y : Int64} (hd : decode (x_code m) pc = .ok (.lsub, 1))  (K : X scr m u (pc + 1) ls (.long (x - y) :: st) M Q) : X scr m u pc ls (.long y :: .long x :: st) M Q :=
  x_W (fun p l e s mi args below meth c H locs lx Z ad hx hb hl ho ht k => lv_lsub hx hb hd k) K
theorem x_land {scr : Option (Nat × (Nat → Int32))} {m : x_Mth} {u : Nat × Nat} {pc : Nat} {ls : List (Nat × Value)} {st : List Value} {M : x_M} {Q : Option Value → x_M → Prop} {x y : Int64} (hd : decode (x_code m) pc = .ok (.land, 1))  (K : X scr m u (pc + 1) ls (.long (x &&& y) :: st) M Q) : X scr m u pc ls (.long y :: .long x :: st) M Q :=
  x_W (fun p l e s mi args below meth c H locs lx Z ad hx hb hl ho ht k => lv_land hx hb hd k) K
theorem x_lor {scr : Option (Nat × (Nat → Int32))} {m : x_Mth} {u : Nat × Nat} {pc : Nat} {ls : List (Nat × Value)} {st : List Value} {M : x_M} {Q : Option Value → x_M → Prop} {x y : Int64} (hd : decode (x_code m) pc = .ok (.lor, 1))  (K : X scr m u (pc + 1) ls (.long (x ||| y) :: st) M Q) : X scr m u pc ls (.long y :: .long x :: st) M Q :=
  x_W (fun p l e s mi args below meth c H locs lx Z ad hx hb hl ho ht k => lv_lor hx hb hd k) K
theorem x_lushr {scr : Option (Nat × (Nat → Int32))} {m : x_Mth} {u : Nat × Nat} {pc : Nat} {ls : List (Nat × Value)} {st : List Value} {M : x_M} {Q : Option Value → x_M → Prop} {x : Int64} {y : Int32} (hd : decode (x_code m) pc = .ok (.lushr, 1))  (K : X scr m u (pc + 1) ls (.long ((x.toUInt64 >>> (y.toInt64.toUInt64 &&& Int64.toUInt64 63)).toInt64) :: st) M Q) : X scr m u pc ls (.int y :: .long x :: st) M Q :=
  x_W (fun p l e s mi args below meth c H locs lx Z ad hx hb hl ho ht k => lv_lushr hx hb hd rfl k) K
theorem x_lshl {scr : Option (Nat × (Nat → Int32))} {m : x_Mth} {u : Nat × Nat} {pc : Nat} {ls : List (Nat × Value)} {st : List Value} {M : x_M} {Q : Option Value → x_M → Prop} {x : Int64} {y : Int32} (hd : decode (x_code m) pc = .ok (.lshl, 1))  (K : X scr m u (pc + 1) ls (.long (x <<< (y.toInt64 &&& 63)) :: st) M Q) : X scr m u pc ls (.int y :: .long x :: st) M Q :=
  x_W (fun p l e s mi args below meth c H locs lx Z ad hx hb hl ho ht k => lv_lshl hx hb hd rfl k) K
theorem x_lcmp {scr : Option (Nat × (Nat → Int32))} {m : x_Mth} {u : Nat × Nat} {pc : Nat} {ls : List (Nat × Value)} {st : List Value} {M : x_M} {Q : Option Value → x_M → Prop} {x y : Int64} (hd : decode (x_code m) pc = .ok (.lcmp, 1))  (K : X scr m u (pc + 1) ls (.int (lg_cmp x y) :: st) M Q) : X scr m u pc ls (.long y :: .long x :: st) M Q :=
  x_W (fun p l e s mi args below meth c H locs lx Z ad hx hb hl ho ht k => W.lcmp hx hb hd k) K
theorem x_l2i {scr : Option (Nat × (Nat → Int32))} {m : x_Mth} {u : Nat × Nat} {pc : Nat} {ls : List (Nat × Value)} {st : List Value} {M : x_M} {Q : Option Value → x_M → Prop} {x : Int64} (hd : decode (x_code m) pc = .ok (.l2i, 1))  (K : X scr m u (pc + 1) ls (.int x.toInt32 :: st) M Q) : X scr m u pc ls (.long x :: st) M Q :=
  x_W (fun p l e s mi args below meth c H locs lx Z ad hx hb hl ho ht k => lv_l2i hx hb hd rfl k) K
theorem x_i2c {scr : Option (Nat × (Nat → Int32))} {m : x_Mth} {u : Nat × Nat} {pc : Nat} {ls : List (Nat × Value)} {st : List Value} {M : x_M} {Q : Option Value → x_M → Prop} {x : Int32} (hd : decode (x_code m) pc = .ok (.i2c, 1))  (K : X scr m u (pc + 1) ls (.int (x.toUInt32 % 65536).toInt32 :: st) M Q) : X scr m u pc ls (.int x :: st) M Q :=
  x_W (fun p l e s mi args below meth c H locs lx Z ad hx hb hl ho ht k => lv_i2c hx hb hd rfl k) K
theorem x_iconst {scr : Option (Nat × (Nat → Int32))} {m : x_Mth} {u : Nat × Nat} {pc : Nat} {ls : List (Nat × Value)} {st : List Value} {M : x_M} {Q : Option Value → x_M → Prop} {n : Int} {v : Int32} (hd : decode (x_code m) pc = .ok (.iconst n, 1)) (hv : Int32.ofInt n = v) (K : X scr m u (pc + 1) ls (.int v :: st) M Q) : X scr m u pc ls (st) M Q :=
  x_W (fun p l e s mi args below meth c H locs lx Z ad hx hb hl ho ht k => lv_iconst hx hb hd hv k) K
theorem x_bipush {scr : Option (Nat × (Nat → Int32))} {m : x_Mth} {u : Nat × Nat} {pc : Nat} {ls : List (Nat × Value)} {st : List Value} {M : x_M} {Q : Option Value → x_M → Prop} {n : Int} {v : Int32} (hd : decode (x_code m) pc = .ok (.bipush n, 2)) (hv : (Int8.ofInt n).toInt32 = v) (K : X scr m u (pc + 2) ls (.int v :: st) M Q) : X scr m u pc ls (st) M Q :=
  x_W (fun p l e s mi args below meth c H locs lx Z ad hx hb hl ho ht k => lv_bipush hx hb hd hv k) K
theorem x_sipush {scr : Option (Nat × (Nat → Int32))} {m : x_Mth} {u : Nat × Nat} {pc : Nat} {ls : List (Nat × Value)} {st : List Value} {M : x_M} {Q : Option Value → x_M → Prop} {n : Int} {v : Int32} (hd : decode (x_code m) pc = .ok (.sipush n, 3)) (hv : (Int16.ofInt n).toInt32 = v) (K : X scr m u (pc + 3) ls (.int v :: st) M Q) : X scr m u pc ls (st) M Q :=
  x_W (fun p l e s mi args below meth c H locs lx Z ad hx hb hl ho ht k => lv_sipush hx hb hd hv k) K
theorem x_lconst {scr : Option (Nat × (Nat → Int32))} {m : x_Mth} {u : Nat × Nat} {pc : Nat} {ls : List (Nat × Value)} {st : List Value} {M : x_M} {Q : Option Value → x_M → Prop} {n : Fin 2} {v : Int64} (hd : decode (x_code m) pc = .ok (.lconst n, 1)) (hv : Int64.ofNat (n : Nat) = v) (K : X scr m u (pc + 1) ls (.long v :: st) M Q) : X scr m u pc ls (st) M Q :=
  x_W (fun p l e s mi args below meth c H locs lx Z ad hx hb hl ho ht k => lv_lconst hx hb hd hv k) K
theorem x_ldcw {scr : Option (Nat × (Nat → Int32))} {m : x_Mth} {u : Nat × Nat} {pc : Nat} {ls : List (Nat × Value)} {st : List Value} {M : x_M} {Q : Option Value → x_M → Prop} {idx : Nat} {v : Int32} (hd : decode (x_code m) pc = .ok (.ldc_w idx, 3)) (hw : Cond.constant (x_own m) idx v ∈ x_GW) (K : X scr m u (pc + 3) ls (.int v :: st) M Q) : X scr m u pc ls (st) M Q :=
  x_W (fun p l e s mi args below meth c H locs lx Z ad hx hb hl ho ht k => lv_ldcw hx hb ho (ht _ hw) hd k) K
theorem x_ldc2 {scr : Option (Nat × (Nat → Int32))} {m : x_Mth} {u : Nat × Nat} {pc : Nat} {ls : List (Nat × Value)} {st : List Value} {M : x_M} {Q : Option Value → x_M → Prop} {idx : Nat} {v : Int64} (hd : decode (x_code m) pc = .ok (.ldc2_w idx, 3)) (hw : Cond.constantLong (x_own m) idx v ∈ x_GW) (K : X scr m u (pc + 3) ls (.long v :: st) M Q) : X scr m u pc ls (st) M Q :=
  x_W (fun p l e s mi args below meth c H locs lx Z ad hx hb hl ho ht k => lv_ldc2 hx hb ho (ht _ hw) hd k) K
theorem x_iload_n {scr : Option (Nat × (Nat → Int32))} {m : x_Mth} {u : Nat × Nat} {pc : Nat} {ls : List (Nat × Value)} {st : List Value} {M : x_M} {Q : Option Value → x_M → Prop} {k : Fin 4} {i : Nat} {x : Int32} (q : Nat) (hd : decode (x_code m) pc = .ok (.iload_n k, 1)) (hi : (k : Nat) = i) (hq : ls[q]? = some (i, .int x)) (K : X scr m u (pc + 1) ls (.int x :: st) M Q) : X scr m u pc ls (st) M Q :=
  x_W (fun p l e s mi args below meth c H locs lx Z ad hx hb hl ho ht k => lv_iload_n hx hb hd hi (lv_at hl q (by simp [x_lp, hq, x_cv])) k) K
theorem x_lload_n {scr : Option (Nat × (Nat → Int32))} {m : x_Mth} {u : Nat × Nat} {pc : Nat} {ls : List (Nat × Value)} {st : List Value} {M : x_M} {Q : Option Value → x_M → Prop} {k : Fin 4} {i : Nat} {x : Int64} (q : Nat) (hd : decode (x_code m) pc = .ok (.lload_n k, 1)) (hi : (k : Nat) = i) (hq : ls[q]? = some (i, .long x)) (K : X scr m u (pc + 1) ls (.long x :: st) M Q) : X scr m u pc ls (st) M Q :=
  x_W (fun p l e s mi args below meth c H locs lx Z ad hx hb hl ho ht k => lv_lload_n hx hb hd hi (lv_at hl q (by simp [x_lp, hq, x_cv])) k) K
theorem x_aload_n {scr : Option (Nat × (Nat → Int32))} {m : x_Mth} {u : Nat × Nat} {pc : Nat} {ls : List (Nat × Value)} {st : List Value} {M : x_M} {Q : Option Value → x_M → Prop} {k : Fin 4} {i : Nat} {x : Nat} (q : Nat) (hd : decode (x_code m) pc = .ok (.aload_n k, 1)) (hi : (k : Nat) = i) (hq : ls[q]? = some (i, .ref x)) (K : X scr m u (pc + 1) ls (.ref x :: st) M Q) : X scr m u pc ls (st) M Q :=
  x_W (fun p l e s mi args below meth c H locs lx Z ad hx hb hl ho ht k => lv_aload_n hx hb hd hi (lv_at hl q (by simp [x_lp, hq, x_cv])) k) K
theorem x_iload {scr : Option (Nat × (Nat → Int32))} {m : x_Mth} {u : Nat × Nat} {pc : Nat} {ls : List (Nat × Value)} {st : List Value} {M : x_M} {Q : Option Value → x_M → Prop} {i : Nat} {x : Int32} (q : Nat) (hd : decode (x_code m) pc = .ok (.iload i, 2)) (hq : ls[q]? = some (i, .int x)) (K : X scr m u (pc + 2) ls (.int x :: st) M Q) : X scr m u pc ls (st) M Q :=
  x_W (fun p l e s mi args below meth c H locs lx Z ad hx hb hl ho ht k => lv_iload hx hb hd (lv_at hl q (by simp [x_lp, hq, x_cv])) k) K
theorem x_lload {scr : Option (Nat × (Nat → Int32))} {m : x_Mth} {u : Nat × Nat} {pc : Nat} {ls : List (Nat × Value)} {st : List Value} {M : x_M} {Q : Option Value → x_M → Prop} {i : Nat} {x : Int64} (q : Nat) (hd : decode (x_code m) pc = .ok (.lload i, 2)) (hq : ls[q]? = some (i, .long x)) (K : X scr m u (pc + 2) ls (.long x :: st) M Q) : X scr m u pc ls (st) M Q :=
  x_W (fun p l e s mi args below meth c H locs lx Z ad hx hb hl ho ht k => lv_lload hx hb hd (lv_at hl q (by simp [x_lp, hq, x_cv])) k) K
theorem x_aload {scr : Option (Nat × (Nat → Int32))} {m : x_Mth} {u : Nat × Nat} {pc : Nat} {ls : List (Nat × Value)} {st : List Value} {M : x_M} {Q : Option Value → x_M → Prop} {i : Nat} {x : Nat} (q : Nat) (hd : decode (x_code m) pc = .ok (.aload i, 2)) (hq : ls[q]? = some (i, .ref x)) (K : X scr m u (pc + 2) ls (.ref x :: st) M Q) : X scr m u pc ls (st) M Q :=
  x_W (fun p l e s mi args below meth c H locs lx Z ad hx hb hl ho ht k => lv_aload hx hb hd (lv_at hl q (by simp [x_lp, hq, x_cv])) k) K
theorem x_lvat {ls : List (Nat × Value)} {ad : Nat → Nat} {q i : Nat} {v : Value} (h : ls[q]? = some (i, v)) : (x_lp ad ls)[q]? = some (i, x_cv ad v) := by simp [x_lp, h]
theorem x_dup {scr : Option (Nat × (Nat → Int32))} {m : x_Mth} {u : Nat × Nat} {pc : Nat} {ls : List (Nat × Value)} {st : List Value} {M : x_M} {Q : Option Value → x_M → Prop} {v : Value} (hd : decode (x_code m) pc = .ok (.dup, 1)) (hv : v.category = 1) (K : X scr m u (pc + 1) ls (v :: v :: st) M Q) : X scr m u pc ls (v :: st) M Q :=
  x_W (fun p l e s mi args below meth c H locs lx Z ad hx hb hl ho ht k => lv_dup hx hb hd (by rw [x_cv_cat]; exact hv) k) K
theorem x_dup2 {scr : Option (Nat × (Nat → Int32))} {m : x_Mth} {u : Nat × Nat} {pc : Nat} {ls : List (Nat × Value)} {st : List Value} {M : x_M} {Q : Option Value → x_M → Prop} {v w : Value} (hd : decode (x_code m) pc = .ok (.dup2, 1)) (hv : v.category = 1) (hw : w.category = 1) (K : X scr m u (pc + 1) ls (v :: w :: v :: w :: st) M Q) : X scr m u pc ls (v :: w :: st) M Q :=
  x_W (fun p l e s mi args below meth c H locs lx Z ad hx hb hl ho ht k => lv_dup2_11 hx hb hd (by rw [x_cv_cat]; exact hv) (by rw [x_cv_cat]; exact hw) k) K
theorem x_pop {scr : Option (Nat × (Nat → Int32))} {m : x_Mth} {u : Nat × Nat} {pc : Nat} {ls : List (Nat × Value)} {st : List Value} {M : x_M} {Q : Option Value → x_M → Prop} {v : Value} (hd : decode (x_code m) pc = .ok (.pop, 1)) (hv : v.category = 1) (K : X scr m u (pc + 1) ls (st) M Q) : X scr m u pc ls (v :: st) M Q :=
  x_W (fun p l e s mi args below meth c H locs lx Z ad hx hb hl ho ht k => lv_pop hx hb hd (by rw [x_cv_cat]; exact hv) k) K
theorem x_icmp_eq {scr : Option (Nat × (Nat → Int32))} {m : x_Mth} {u : Nat × Nat} {pc : Nat} {ls : List (Nat × Value)} {st : List Value} {M : x_M} {Q : Option Value → x_M → Prop} {x y : Int32} {off : Int} (tgt : Nat) (hd : decode (x_code m) pc = .ok (.if_icmp .eq off, 3)) (ht : (pc : Int) + off = (tgt : Int)) (K1 : (x = y) → X scr m u tgt ls st M Q) (K2 : ¬ (x = y) → X scr m u (pc + 3) ls st M Q) : X scr m u pc ls (.int y :: .int x :: st) M Q := by
  intro p l e s mi args below meth c D cI cZ A ae al H locs lx Z C R hl hret h1 h2
  exact lv_icmp_eq C.1 C.2.1 hd ht (fun h => K1 h p l e s mi args below meth c D cI cZ A ae al H locs lx Z C R hl hret h1 h2) (fun h => K2 h p l e s mi args below meth c D cI cZ A ae al H locs lx Z C R hl hret h1 h2)
theorem x_icmp_ne {scr : Option (Nat × (Nat → Int32))} {m : x_Mth} {u : Nat × Nat} {pc : Nat} {ls : List (Nat × Value)} {st : List Value} {M : x_M} {Q : Option Value → x_M → Prop} {x y : Int32} {off : Int} (tgt : Nat) (hd : decode (x_code m) pc = .ok (.if_icmp .ne off, 3)) (ht : (pc : Int) + off = (tgt : Int)) (K1 : (¬ x = y) → X scr m u tgt ls st M Q) (K2 : (x = y) → X scr m u (pc + 3) ls st M Q) : X scr m u pc ls (.int y :: .int x :: st) M Q := by
  intro p l e s mi args below meth c D cI cZ A ae al H locs lx Z C R hl hret h1 h2
  exact lv_icmp_ne C.1 C.2.1 hd ht (fun h => K1 h p l e s mi args below meth c D cI cZ A ae al H locs lx Z C R hl hret h1 h2) (fun h => K2 h p l e s mi args below meth c D cI cZ A ae al H locs lx Z C R hl hret h1 h2)
theorem x_icmp_lt {scr : Option (Nat × (Nat → Int32))} {m : x_Mth} {u : Nat × Nat} {pc : Nat} {ls : List (Nat × Value)} {st : List Value} {M : x_M} {Q : Option Value → x_M → Prop} {x y : Int32} {off : Int} (tgt : Nat) (hd : decode (x_code m) pc = .ok (.if_icmp .lt off, 3)) (ht : (pc : Int) + off = (tgt : Int)) (K1 : (x < y) → X scr m u tgt ls st M Q) (K2 : ¬ (x < y) → X scr m u (pc + 3) ls st M Q) : X scr m u pc ls (.int y :: .int x :: st) M Q := by
  intro p l e s mi args below meth c D cI cZ A ae al H locs lx Z C R hl hret h1 h2
  exact lv_icmp_lt C.1 C.2.1 hd ht (fun h => K1 h p l e s mi args below meth c D cI cZ A ae al H locs lx Z C R hl hret h1 h2) (fun h => K2 h p l e s mi args below meth c D cI cZ A ae al H locs lx Z C R hl hret h1 h2)
theorem x_icmp_ge {scr : Option (Nat × (Nat → Int32))} {m : x_Mth} {u : Nat × Nat} {pc : Nat} {ls : List (Nat × Value)} {st : List Value} {M : x_M} {Q : Option Value → x_M → Prop} {x y : Int32} {off : Int} (tgt : Nat) (hd : decode (x_code m) pc = .ok (.if_icmp .ge off, 3)) (ht : (pc : Int) + off = (tgt : Int)) (K1 : (y ≤ x) → X scr m u tgt ls st M Q) (K2 : ¬ (y ≤ x) → X scr m u (pc + 3) ls st M Q) : X scr m u pc ls (.int y :: .int x :: st) M Q := by
  intro p l e s mi args below meth c D cI cZ A ae al H locs lx Z C R hl hret h1 h2
  exact lv_icmp_ge C.1 C.2.1 hd ht (fun h => K1 h p l e s mi args below meth c D cI cZ A ae al H locs lx Z C R hl hret h1 h2) (fun h => K2 h p l e s mi args below meth c D cI cZ A ae al H locs lx Z C R hl hret h1 h2)
theorem x_icmp_gt {scr : Option (Nat × (Nat → Int32))} {m : x_Mth} {u : Nat × Nat} {pc : Nat} {ls : List (Nat × Value)} {st : List Value} {M : x_M} {Q : Option Value → x_M → Prop} {x y : Int32} {off : Int} (tgt : Nat) (hd : decode (x_code m) pc = .ok (.if_icmp .gt off, 3)) (ht : (pc : Int) + off = (tgt : Int)) (K1 : (y < x) → X scr m u tgt ls st M Q) (K2 : ¬ (y < x) → X scr m u (pc + 3) ls st M Q) : X scr m u pc ls (.int y :: .int x :: st) M Q := by
  intro p l e s mi args below meth c D cI cZ A ae al H locs lx Z C R hl hret h1 h2
  exact lv_icmp_gt C.1 C.2.1 hd ht (fun h => K1 h p l e s mi args below meth c D cI cZ A ae al H locs lx Z C R hl hret h1 h2) (fun h => K2 h p l e s mi args below meth c D cI cZ A ae al H locs lx Z C R hl hret h1 h2)
theorem x_icmp_le {scr : Option (Nat × (Nat → Int32))} {m : x_Mth} {u : Nat × Nat} {pc : Nat} {ls : List (Nat × Value)} {st : List Value} {M : x_M} {Q : Option Value → x_M → Prop} {x y : Int32} {off : Int} (tgt : Nat) (hd : decode (x_code m) pc = .ok (.if_icmp .le off, 3)) (ht : (pc : Int) + off = (tgt : Int)) (K1 : (x ≤ y) → X scr m u tgt ls st M Q) (K2 : ¬ (x ≤ y) → X scr m u (pc + 3) ls st M Q) : X scr m u pc ls (.int y :: .int x :: st) M Q := by
  intro p l e s mi args below meth c D cI cZ A ae al H locs lx Z C R hl hret h1 h2
  exact lv_icmp_le C.1 C.2.1 hd ht (fun h => K1 h p l e s mi args below meth c D cI cZ A ae al H locs lx Z C R hl hret h1 h2) (fun h => K2 h p l e s mi args below meth c D cI cZ A ae al H locs lx Z C R hl hret h1 h2)
theorem x_if_eq {scr : Option (Nat × (Nat → Int32))} {m : x_Mth} {u : Nat × Nat} {pc : Nat} {ls : List (Nat × Value)} {st : List Value} {M : x_M} {Q : Option Value → x_M → Prop} {x : Int32} {off : Int} (tgt : Nat) (hd : decode (x_code m) pc = .ok (.ifCond .eq off, 3)) (ht : (pc : Int) + off = (tgt : Int)) (K1 : (x = 0) → X scr m u tgt ls st M Q) (K2 : ¬ (x = 0) → X scr m u (pc + 3) ls st M Q) : X scr m u pc ls (.int x :: st) M Q := by
  intro p l e s mi args below meth c D cI cZ A ae al H locs lx Z C R hl hret h1 h2
  exact lv_if_eq C.1 C.2.1 hd ht (fun h => K1 h p l e s mi args below meth c D cI cZ A ae al H locs lx Z C R hl hret h1 h2) (fun h => K2 h p l e s mi args below meth c D cI cZ A ae al H locs lx Z C R hl hret h1 h2)
theorem x_if_ne {scr : Option (Nat × (Nat → Int32))} {m : x_Mth} {u : Nat × Nat} {pc : Nat} {ls : List (Nat × Value)} {st : List Value} {M : x_M} {Q : Option Value → x_M → Prop} {x : Int32} {off : Int} (tgt : Nat) (hd : decode (x_code m) pc = .ok (.ifCond .ne off, 3)) (ht : (pc : Int) + off = (tgt : Int)) (K1 : (¬ x = 0) → X scr m u tgt ls st M Q) (K2 : (x = 0) → X scr m u (pc + 3) ls st M Q) : X scr m u pc ls (.int x :: st) M Q := by
  intro p l e s mi args below meth c D cI cZ A ae al H locs lx Z C R hl hret h1 h2
  exact lv_if_ne C.1 C.2.1 hd ht (fun h => K1 h p l e s mi args below meth c D cI cZ A ae al H locs lx Z C R hl hret h1 h2) (fun h => K2 h p l e s mi args below meth c D cI cZ A ae al H locs lx Z C R hl hret h1 h2)
theorem x_if_lt {scr : Option (Nat × (Nat → Int32))} {m : x_Mth} {u : Nat × Nat} {pc : Nat} {ls : List (Nat × Value)} {st : List Value} {M : x_M} {Q : Option Value → x_M → Prop} {x : Int32} {off : Int} (tgt : Nat) (hd : decode (x_code m) pc = .ok (.ifCond .lt off, 3)) (ht : (pc : Int) + off = (tgt : Int)) (K1 : (x < 0) → X scr m u tgt ls st M Q) (K2 : ¬ (x < 0) → X scr m u (pc + 3) ls st M Q) : X scr m u pc ls (.int x :: st) M Q := by
  intro p l e s mi args below meth c D cI cZ A ae al H locs lx Z C R hl hret h1 h2
  exact lv_if_lt C.1 C.2.1 hd ht (fun h => K1 h p l e s mi args below meth c D cI cZ A ae al H locs lx Z C R hl hret h1 h2) (fun h => K2 h p l e s mi args below meth c D cI cZ A ae al H locs lx Z C R hl hret h1 h2)
theorem x_if_ge {scr : Option (Nat × (Nat → Int32))} {m : x_Mth} {u : Nat × Nat} {pc : Nat} {ls : List (Nat × Value)} {st : List Value} {M : x_M} {Q : Option Value → x_M → Prop} {x : Int32} {off : Int} (tgt : Nat) (hd : decode (x_code m) pc = .ok (.ifCond .ge off, 3)) (ht : (pc : Int) + off = (tgt : Int)) (K1 : (0 ≤ x) → X scr m u tgt ls st M Q) (K2 : ¬ (0 ≤ x) → X scr m u (pc + 3) ls st M Q) : X scr m u pc ls (.int x :: st) M Q := by
  intro p l e s mi args below meth c D cI cZ A ae al H locs lx Z C R hl hret h1 h2
  exact lv_if_ge C.1 C.2.1 hd ht (fun h => K1 h p l e s mi args below meth c D cI cZ A ae al H locs lx Z C R hl hret h1 h2) (fun h => K2 h p l e s mi args below meth c D cI cZ A ae al H locs lx Z C R hl hret h1 h2)
theorem x_if_gt {scr : Option (Nat × (Nat → Int32))} {m : x_Mth} {u : Nat × Nat} {pc : Nat} {ls : List (Nat × Value)} {st : List Value} {M : x_M} {Q : Option Value → x_M → Prop} {x : Int32} {off : Int} (tgt : Nat) (hd : decode (x_code m) pc = .ok (.ifCond .gt off, 3)) (ht : (pc : Int) + off = (tgt : Int)) (K1 : (0 < x) → X scr m u tgt ls st M Q) (K2 : ¬ (0 < x) → X scr m u (pc + 3) ls st M Q) : X scr m u pc ls (.int x :: st) M Q := by
  intro p l e s mi args below meth c D cI cZ A ae al H locs lx Z C R hl hret h1 h2
  exact lv_if_gt C.1 C.2.1 hd ht (fun h => K1 h p l e s mi args below meth c D cI cZ A ae al H locs lx Z C R hl hret h1 h2) (fun h => K2 h p l e s mi args below meth c D cI cZ A ae al H locs lx Z C R hl hret h1 h2)
theorem x_if_le {scr : Option (Nat × (Nat → Int32))} {m : x_Mth} {u : Nat × Nat} {pc : Nat} {ls : List (Nat × Value)} {st : List Value} {M : x_M} {Q : Option Value → x_M → Prop} {x : Int32} {off : Int} (tgt : Nat) (hd : decode (x_code m) pc = .ok (.ifCond .le off, 3)) (ht : (pc : Int) + off = (tgt : Int)) (K1 : (x ≤ 0) → X scr m u tgt ls st M Q) (K2 : ¬ (x ≤ 0) → X scr m u (pc + 3) ls st M Q) : X scr m u pc ls (.int x :: st) M Q := by
  intro p l e s mi args below meth c D cI cZ A ae al H locs lx Z C R hl hret h1 h2
  exact lv_if_le C.1 C.2.1 hd ht (fun h => K1 h p l e s mi args below meth c D cI cZ A ae al H locs lx Z C R hl hret h1 h2) (fun h => K2 h p l e s mi args below meth c D cI cZ A ae al H locs lx Z C R hl hret h1 h2)
theorem x_goto {scr : Option (Nat × (Nat → Int32))} {m : x_Mth} {u : Nat × Nat} {pc : Nat} {ls : List (Nat × Value)} {st : List Value} {M : x_M} {Q : Option Value → x_M → Prop} {off : Int} (tgt : Nat) (hd : decode (x_code m) pc = .ok (.goto off, 3)) (ht : (pc : Int) + off = (tgt : Int)) (K : X scr m u tgt ls st M Q) : X scr m u pc ls st M Q :=
  x_W (fun p l e s mi args below meth c H locs lx Z ad hx hb hl ho h k => lv_goto hx hb hd ht k) K
theorem x_swIn {scr : Option (Nat × (Nat → Int32))} {m : x_Mth} {u : Nat × Nat} {pc : Nat} {ls : List (Nat × Value)} {st : List Value} {M : x_M} {Q : Option Value → x_M → Prop} {dflt lo hi : Int} {offs : Array Int} {len : Nat} {x : Int32} {off : Int} (tgt : Nat) (hd : decode (x_code m) pc = .ok (.tableswitch dflt lo hi offs, len)) (h1 : ¬ x.toInt < lo) (h2 : ¬ hi < x.toInt) (ho : offs[(x.toInt - lo).toNat]? = some off) (ht : (pc : Int) + off = (tgt : Int)) (K : X scr m u tgt ls st M Q) : X scr m u pc ls (.int x :: st) M Q :=
  x_W (fun p l e s mi args below meth c H locs lx Z ad hx hb hl _ h k => lv_tableIn hx hb hd h1 h2 ho ht k) K
theorem x_swOut {scr : Option (Nat × (Nat → Int32))} {m : x_Mth} {u : Nat × Nat} {pc : Nat} {ls : List (Nat × Value)} {st : List Value} {M : x_M} {Q : Option Value → x_M → Prop} {dflt lo hi : Int} {offs : Array Int} {len : Nat} {x : Int32} (tgt : Nat) (hd : decode (x_code m) pc = .ok (.tableswitch dflt lo hi offs, len)) (h : x.toInt < lo ∨ hi < x.toInt) (ht : (pc : Int) + dflt = (tgt : Int)) (K : X scr m u tgt ls st M Q) : X scr m u pc ls (.int x :: st) M Q :=
  x_W (fun p l e s mi args below meth c H locs lx Z ad hx hb hl _ _ k => lv_tableOut hx hb hd h ht k) K
/-- a local of one word is stored: the list stays in order, a long that loses a half is dropped -/
def x_st1 (ls : List (Nat × Value)) (i : Nat) (v : Value) : List (Nat × Value) := (ls.filter fun q => decide (q.1 < i) && !(q.1 + 1 == i && q.2.category == 2)) ++ (i, v) :: ls.filter fun q => decide (i < q.1)
def x_st2 (ls : List (Nat × Value)) (i : Nat) (v : Value) : List (Nat × Value) := (ls.filter fun q => decide (q.1 < i) && !(q.1 + 1 == i && q.2.category == 2)) ++ (i, v) :: ls.filter fun q => decide (i + 1 < q.1)
theorem x_lv_of {ls : Array Slot} {n : Nat} {l l' : List (Nat × Value)} (h : lv_has ls n l) (hs : ∀ q ∈ l', q ∈ l) : lv_has ls n l' := ⟨h.1, h.2.1, fun q hq => h.2.2 q (hs q hq)⟩
theorem x_st1_of {lx : Array Slot} {n : Nat} {ls : List (Nat × Value)} {i : Nat} {v : Value} {ad : Nat → Nat} (h : lv_has lx n ((i, x_cv ad v) :: (x_lp ad ls).filter (fun q => !(q.1 == i) && !(q.1 + 1 == i && q.2.category == 2)))) : lv_has lx n (x_lp ad (x_st1 ls i v)) := by
  refine x_lv_of h fun q hq => ?_
  simp only [x_lp, x_st1, List.map_append, List.map_cons, List.mem_append, List.mem_cons, List.mem_map, List.mem_filter] at hq ⊢
  rcases hq with ⟨a, ⟨h1, h2⟩, rfl⟩ | rfl | ⟨a, ⟨h1, h2⟩, rfl⟩
  · refine Or.inr ⟨⟨a, h1, rfl⟩, ?_⟩
    simp only [Bool.and_eq_true, decide_eq_true_eq] at h2
    simp only [x_cv_cat, Bool.and_eq_true]
    refine ⟨?_, h2.2⟩
    have : a.1 ≠ i := by omega
    simpa using this
  · exact Or.inl rfl
  · refine Or.inr ⟨⟨a, h1, rfl⟩, ?_⟩
    have h3 : i < a.1 := by simpa using h2
    have e1 : a.1 ≠ i := by omega
    have e2 : a.1 + 1 ≠ i := by omega
    simp [e1, e2]
theorem x_st2_of {lx : Array Slot} {n : Nat} {ls : List (Nat × Value)} {i : Nat} {v : Value} {ad : Nat → Nat} (h : lv_has lx n ((i, x_cv ad v) :: (x_lp ad ls).filter (fun q => !(q.1 == i) && (!(q.1 == i + 1) && !(q.1 + 1 == i && q.2.category == 2))))) : lv_has lx n (x_lp ad (x_st2 ls i v)) := by
  refine x_lv_of h fun q hq => ?_
  simp only [x_lp, x_st2, List.map_append, List.map_cons, List.mem_append, List.mem_cons, List.mem_map, List.mem_filter] at hq ⊢
  rcases hq with ⟨a, ⟨h1, h2⟩, rfl⟩ | rfl | ⟨a, ⟨h1, h2⟩, rfl⟩
  · refine Or.inr ⟨⟨a, h1, rfl⟩, ?_⟩
    simp only [Bool.and_eq_true, decide_eq_true_eq] at h2
    simp only [x_cv_cat, Bool.and_eq_true]
    have e1 : a.1 ≠ i := by omega
    have e2 : a.1 ≠ i + 1 := by omega
    exact ⟨by simpa using e1, by simpa using e2, h2.2⟩
  · exact Or.inl rfl
  · refine Or.inr ⟨⟨a, h1, rfl⟩, ?_⟩
    have h3 : i + 1 < a.1 := by simpa using h2
    have e1 : a.1 ≠ i := by omega
    have e2 : a.1 + 1 ≠ i := by omega
    have e3 : a.1 ≠ i + 1 := by omega
    simp [e1, e2, e3]
theorem x_istore_n {scr : Option (Nat × (Nat → Int32))} {m : x_Mth} {u : Nat × Nat} {pc : Nat} {ls : List (Nat × Value)} {st : List Value} {M : x_M} {Q : Option Value → x_M → Prop} {k : Fin 4} {i : Nat} {x : Int32} (ls' : List (Nat × Value)) (hd : decode (x_code m) pc = .ok (.istore_n k, 1)) (hi : (k : Nat) = i) (hn : i < x_maxL m) (hs : x_st1 ls i (.int x) = ls') (K : X scr m u (pc + 1) ls' st M Q) : X scr m u pc ls (.int x :: st) M Q := by
  subst hs
  intro p l e s mi args below meth c D cI cZ A ae al H locs lx Z C R hl hret h1 h2
  exact lv_istore_n C.1 C.2.1 hd hi hl hn rfl (fun lx hl => K p l e s mi args below meth c D cI cZ A ae al H locs lx Z C R (x_st1_of (v := .int x) hl) hret h1 h2)
theorem x_astore_n {scr : Option (Nat × (Nat → Int32))} {m : x_Mth} {u : Nat × Nat} {pc : Nat} {ls : List (Nat × Value)} {st : List Value} {M : x_M} {Q : Option Value → x_M → Prop} {k : Fin 4} {i : Nat} {x : Nat} (ls' : List (Nat × Value)) (hd : decode (x_code m) pc = .ok (.astore_n k, 1)) (hi : (k : Nat) = i) (hn : i < x_maxL m) (hs : x_st1 ls i (.ref x) = ls') (K : X scr m u (pc + 1) ls' st M Q) : X scr m u pc ls (.ref x :: st) M Q := by
  subst hs
  intro p l e s mi args below meth c D cI cZ A ae al H locs lx Z C R hl hret h1 h2
  exact lv_astore_n C.1 C.2.1 hd hi hl hn rfl (fun lx hl => K p l e s mi args below meth c D cI cZ A ae al H locs lx Z C R (x_st1_of (v := .ref x) hl) hret h1 h2)
theorem x_lstore_n {scr : Option (Nat × (Nat → Int32))} {m : x_Mth} {u : Nat × Nat} {pc : Nat} {ls : List (Nat × Value)} {st : List Value} {M : x_M} {Q : Option Value → x_M → Prop} {k : Fin 4} {i : Nat} {x : Int64} (ls' : List (Nat × Value)) (hd : decode (x_code m) pc = .ok (.lstore_n k, 1)) (hi : (k : Nat) = i) (hn : i + 1 < x_maxL m) (hs : x_st2 ls i (.long x) = ls') (K : X scr m u (pc + 1) ls' st M Q) : X scr m u pc ls (.long x :: st) M Q := by
  subst hs
  intro p l e s mi args below meth c D cI cZ A ae al H locs lx Z C R hl hret h1 h2
  exact lv_lstore_n C.1 C.2.1 hd hi hl hn rfl (fun lx hl => K p l e s mi args below meth c D cI cZ A ae al H locs lx Z C R (x_st2_of (v := .long x) hl) hret h1 h2)
theorem x_istore {scr : Option (Nat × (Nat → Int32))} {m : x_Mth} {u : Nat × Nat} {pc : Nat} {ls : List (Nat × Value)} {st : List Value} {M : x_M} {Q : Option Value → x_M → Prop} {i : Nat} {x : Int32} (ls' : List (Nat × Value)) (hd : decode (x_code m) pc = .ok (.istore i, 2)) (hn : i < x_maxL m) (hs : x_st1 ls i (.int x) = ls') (K : X scr m u (pc + 2) ls' st M Q) : X scr m u pc ls (.int x :: st) M Q := by
  subst hs
  intro p l e s mi args below meth c D cI cZ A ae al H locs lx Z C R hl hret h1 h2
  exact lv_istore C.1 C.2.1 hd hl hn rfl (fun lx hl => K p l e s mi args below meth c D cI cZ A ae al H locs lx Z C R (x_st1_of (v := .int x) hl) hret h1 h2)
theorem x_astore {scr : Option (Nat × (Nat → Int32))} {m : x_Mth} {u : Nat × Nat} {pc : Nat} {ls : List (Nat × Value)} {st : List Value} {M : x_M} {Q : Option Value → x_M → Prop} {i : Nat} {x : Nat} (ls' : List (Nat × Value)) (hd : decode (x_code m) pc = .ok (.astore i, 2)) (hn : i < x_maxL m) (hs : x_st1 ls i (.ref x) = ls') (K : X scr m u (pc + 2) ls' st M Q) : X scr m u pc ls (.ref x :: st) M Q := by
  subst hs
  intro p l e s mi args below meth c D cI cZ A ae al H locs lx Z C R hl hret h1 h2
  exact lv_astore C.1 C.2.1 hd hl hn rfl (fun lx hl => K p l e s mi args below meth c D cI cZ A ae al H locs lx Z C R (x_st1_of (v := .ref x) hl) hret h1 h2)
theorem x_lstore {scr : Option (Nat × (Nat → Int32))} {m : x_Mth} {u : Nat × Nat} {pc : Nat} {ls : List (Nat × Value)} {st : List Value} {M : x_M} {Q : Option Value → x_M → Prop} {i : Nat} {x : Int64} (ls' : List (Nat × Value)) (hd : decode (x_code m) pc = .ok (.lstore i, 2)) (hn : i + 1 < x_maxL m) (hs : x_st2 ls i (.long x) = ls') (K : X scr m u (pc + 2) ls' st M Q) : X scr m u pc ls (.long x :: st) M Q := by
  subst hs
  intro p l e s mi args below meth c D cI cZ A ae al H locs lx Z C R hl hret h1 h2
  exact lv_lstore C.1 C.2.1 hd hl hn rfl (fun lx hl => K p l e s mi args below meth c D cI cZ A ae al H locs lx Z C R (x_st2_of (v := .long x) hl) hret h1 h2)
theorem x_iinc {scr : Option (Nat × (Nat → Int32))} {m : x_Mth} {u : Nat × Nat} {pc : Nat} {ls : List (Nat × Value)} {st : List Value} {M : x_M} {Q : Option Value → x_M → Prop} {i : Nat} {n : Int} {x : Int32} (q : Nat) (v : Int32) (ls' : List (Nat × Value)) (hd : decode (x_code m) pc = .ok (.iinc i n, 3)) (hq : ls[q]? = some (i, .int x)) (hv : x + Int32.ofInt n = v) (hn : i < x_maxL m) (hs : x_st1 ls i (.int v) = ls') (K : X scr m u (pc + 3) ls' st M Q) : X scr m u pc ls st M Q := by
  subst hs
  intro p l e s mi args below meth c D cI cZ A ae al H locs lx Z C R hl hret h1 h2
  exact lv_iinc C.1 C.2.1 hd hl (x_lvat hq) hv hn rfl (fun lx hl => K p l e s mi args below meth c D cI cZ A ae al H locs lx Z C R (x_st1_of (v := .int v) hl) hret h1 h2)
/-- the ends -/
theorem x_end {scr : Option (Nat × (Nat → Int32))} {m : x_Mth} {u : Nat × Nat} {pc : Nat} {ls : List (Nat × Value)} {st : List Value} {M : x_M} {Q : Option Value → x_M → Prop}  (hd : decode (x_code m) pc = .ok (.return_, 1)) (hr : x_ret m = none) (K : Q (none) M) : X scr m u pc ls ([]) M Q := by
  intro p l e s mi args below meth c D cI cZ A ae al H locs lx Z C R hl hret h1 h2
  exact hret _ M al H locs lx pc u.1 u.2 K R (fun _ _ => rfl) (Nat.le_refl _) (by omega) ⟨hd, hr⟩ h1 h2
theorem x_iret {scr : Option (Nat × (Nat → Int32))} {m : x_Mth} {u : Nat × Nat} {pc : Nat} {ls : List (Nat × Value)} {st : List Value} {M : x_M} {Q : Option Value → x_M → Prop} {v : Int32} (hd : decode (x_code m) pc = .ok (.ireturn, 1)) {ty : FieldType} (hr : x_ret m = some ty) (hn : narrow ty (.int v) = .int v) (K : Q (some (.int v)) M) : X scr m u pc ls ([.int v]) M Q := by
  intro p l e s mi args below meth c D cI cZ A ae al H locs lx Z C R hl hret h1 h2
  exact hret _ M al H locs lx pc u.1 u.2 K R (fun _ _ => rfl) (Nat.le_refl _) (by omega) ⟨hd, ty, hr, hn⟩ h1 h2
theorem x_lret {scr : Option (Nat × (Nat → Int32))} {m : x_Mth} {u : Nat × Nat} {pc : Nat} {ls : List (Nat × Value)} {st : List Value} {M : x_M} {Q : Option Value → x_M → Prop} {v : Int64} (hd : decode (x_code m) pc = .ok (.lreturn, 1)) (hr : x_ret m = some .long) (K : Q (some (.long v)) M) : X scr m u pc ls ([.long v]) M Q := by
  intro p l e s mi args below meth c D cI cZ A ae al H locs lx Z C R hl hret h1 h2
  exact hret _ M al H locs lx pc u.1 u.2 K R (fun _ _ => rfl) (Nat.le_refl _) (by omega) ⟨hd, hr⟩ h1 h2
end
section
/-! ===== fields, arrays, new cells ===== -/
def x_up (I : Nat → Nat → Int32) (r i : Nat) (v : Int32) : Nat → Nat → Int32 := fun r' => if r' = r then upd (I r) i v else I r'
def x_upL (L : Nat → Int64) (r : Nat) (v : Int64) : Nat → Int64 := fun r' => if r' = r then v else L r'
def x_upR (R : Nat → Option Nat) (r : Nat) (v : Option Nat) : Nat → Option Nat := fun r' => if r' = r then v else R r'
/-- a field, as an entry of the class's pool tells it -/
def x_FL (own : String) (idx ci j : Nat) : Prop := ci < 11 ∧ j < x_N ci ∧ Cond.fieldLink own idx (x_R ci) (x_T ci j).2.1 (x_T ci j).2.2.1 ∈ x_GW
theorem x_getf {scr : Option (Nat × (Nat → Int32))} {m : x_Mth} {u : Nat × Nat} {pc : Nat} {ls : List (Nat × Value)} {st : List Value} {M : x_M} {Q : Option Value → x_M → Prop} {idx : Nat} (ci j : Nat) {o : Nat} (v : Value) (hd : decode (x_code m) pc = .ok (.getfield idx, 3)) (hf : x_FL (x_own m) idx ci j) (ho : M.1[o]? = some (0, ci)) (hv : x_fa (x_ty ci j) M.2 (64 * o + j) = v)
    (K : X scr m u (pc + 3) ls (v :: st) M Q) : X scr m u pc ls (.ref o :: st) M Q := by
  intro p l e s mi args below meth c D cI cZ A ae al H locs lx Z C R hl hret h1 h2
  obtain ⟨hx, hb, hml, hr, hlk, hown, hnm, hts, hK, hA, hE, hsc⟩ := id C
  obtain ⟨hci, hj, hw⟩ := hf
  subst hv
  refine va_get (C := x_R ci) (T := x_T ci) (N := x_N ci) (ci := ci) (own := x_own m) (ref := x_R ci) hx hb hts (x_uw ci hci) hown hK R.1 o (x_ws_get ho) (x_cl ci hci) j hj (hts _ hw) (fun x h => by rw [x_own0 ci hci j hj] at h; exact h) (v := x_cv (x_ad al ae) (x_fa (x_ty ci j) M.2 (64 * o + j))) ?_ hd (K p l e s mi args below meth c D cI cZ A ae al H locs lx Z C R hl hret h1 h2)
  simp [List.getElem?_map, List.getElem?_range hj]
theorem x_fa_congr {ty : FieldType} {K K' : (Nat → Nat → Int32) × (Nat → Int64) × (Nat → Option Nat)} {r : Nat} (h : K'.1 r = K.1 r ∧ K'.2.1 r = K.2.1 r ∧ K'.2.2 r = K.2.2 r) : x_fa ty K' r = x_fa ty K r := by
  obtain ⟨a, b, c⟩ := h
  cases ty <;> simp only [x_fa, a, b, c]
theorem x_ent_congr {cI cZ : ClassId} {ad : Nat → Nat} {K K' : (Nat → Nat → Int32) × (Nat → Int64) × (Nat → Option Nat)} {i : Nat} {q : Nat × Nat} (hq : q.1 = 0 → q.2 < 11) (h : ∀ r, 64 * i ≤ r → r < 64 * i + 64 → K'.1 r = K.1 r ∧ K'.2.1 r = K.2.1 r ∧ K'.2.2 r = K.2.2 r) : x_ent cI cZ ad K' i q = x_ent cI cZ ad K i q := by
  obtain ⟨a, b⟩ := q
  match a with
  | 0 =>
    have hb := x_N64 b (hq rfl)
    simp only [x_ent]
    congr 2
    apply List.map_congr_left
    intro j hj
    have hj' := List.mem_range.mp hj
    rw [x_fa_congr (h (64 * i + j) (by omega) (by omega))]
  | 1 => simp only [x_ent, (h (64 * i) (Nat.le_refl _) (by omega)).1]
  | n + 2 => simp only [x_ent, (h (64 * i) (Nat.le_refl _) (by omega)).1]
theorem x_ws_set {cI cZ : ClassId} {ad : Nat → Nat} {M : x_M} {K' : (Nat → Nat → Int32) × (Nat → Int64) × (Nat → Option Nat)} {o : Nat} {q : Nat × Nat} {en : va_E} (hok : x_Ok M) (ho : M.1[o]? = some q) (hs : ∀ r, (r < 64 * o ∨ 64 * o + 64 ≤ r) → K'.1 r = M.2.1 r ∧ K'.2.1 r = M.2.2.1 r ∧ K'.2.2 r = M.2.2.2 r) (he : x_ent cI cZ ad K' o q = en) : (x_ws cI cZ ad M).set o (ad o, en) = x_ws cI cZ ad (M.1, K') := by
  apply List.ext_getElem?
  intro i
  have hlt : o < (x_ws cI cZ ad M).length := by simp [x_ws]; exact (List.getElem?_eq_some_iff.mp ho).1
  by_cases h : o = i
  · subst h
    rw [List.getElem?_set_self hlt, x_ws_get (M := (M.1, K')) ho, he]
  · rw [List.getElem?_set_ne h]
    simp only [x_ws, List.getElem?_mapIdx]
    cases hi : M.1[i]? with
    | none => rfl
    | some q' =>
      simp only [Option.map_some]
      rw [x_ent_congr (K := M.2) (K' := K') (i := i) (q := q') (fun h0 => hok.2.2.2 i q'.2 (by rw [hi, ← h0])) (fun r h1 h2 => hs r (by omega))]
theorem x_ent_put {cI cZ : ClassId} {ad : Nat → Nat} {K K' : (Nat → Nat → Int32) × (Nat → Int64) × (Nat → Option Nat)} {o ci j : Nat} {v : Value} (hj : j < x_N ci) (hs : ∀ r, r ≠ 64 * o + j → K'.1 r = K.1 r ∧ K'.2.1 r = K.2.1 r ∧ K'.2.2 r = K.2.2 r) (hv : x_fa (x_ty ci j) K' (64 * o + j) = v) :
    x_ent cI cZ ad K' o (0, ci) = .inr (ci, ((List.range (x_N ci)).map fun j => x_cv ad (x_fa (x_ty ci j) K (64 * o + j))).set j (x_cv ad v)) := by
  simp only [x_ent]
  congr 2
  apply List.ext_getElem?
  intro i
  by_cases h : j = i
  · subst h
    rw [List.getElem?_set_self (by simpa using hj)]
    simp [List.getElem?_map, List.getElem?_range hj, hv]
  · rw [List.getElem?_set_ne h]
    simp only [List.getElem?_map]
    cases hi : (List.range (x_N ci))[i]? with
    | none => rfl
    | some w =>
      have hw : w = i := by
        obtain ⟨_, hw⟩ := List.getElem?_eq_some_iff.mp hi
        simpa using hw.symm
      subst hw
      simp only [Option.map_some]
      rw [x_fa_congr (hs (64 * o + w) (by omega))]
theorem x_putG {scr : Option (Nat × (Nat → Int32))} {m : x_Mth} {u : Nat × Nat} {pc : Nat} {ls : List (Nat × Value)} {st : List Value} {M : x_M} {Q : Option Value → x_M → Prop} {idx : Nat} (ci j : Nat) {o : Nat} {v : Value} (K' : (Nat → Nat → Int32) × (Nat → Int64) × (Nat → Option Nat)) (hd : decode (x_code m) pc = .ok (.putfield idx, 3)) (hf : x_FL (x_own m) idx ci j) (ho : M.1[o]? = some (0, ci))
    (hfin : (x_T ci j).2.2.2 = false ∨ ((x_y m).name = "<init>" ∧ x_R ci = x_own m)) (hn : ∀ ad, narrow (x_ty ci j) (x_cv ad v) = x_cv ad v) (hfit : ∀ ad, fits (x_ty ci j) (x_cv ad v) = true)
    (hs : ∀ r, r ≠ 64 * o + j → K'.1 r = M.2.1 r ∧ K'.2.1 r = M.2.2.1 r ∧ K'.2.2 r = M.2.2.2 r) (hv : x_fa (x_ty ci j) K' (64 * o + j) = v) (hok : x_Ok M → x_Ok (M.1, K'))
    (K : X scr m u (pc + 3) ls st (M.1, K') Q) : X scr m u pc ls (v :: .ref o :: st) M Q := by
  intro p l e s mi args below meth c D cI cZ A ae al H locs lx Z C R hl hret h1 h2
  obtain ⟨hx, hb, hml, hr, hlk, hown, hnm, hts, hK, hA, hE, hsc⟩ := id C
  obtain ⟨hci, hj, hw⟩ := hf
  obtain ⟨hP, hD, hS, hM⟩ := R
  have hN := x_N64 ci hci
  have e1 := x_ws_set (cI := cI) (cZ := cZ) (ad := x_ad al ae) (K' := K') hM ho (fun r hr => hs r (by omega)) (x_ent_put (cI := cI) (cZ := cZ) (ad := x_ad al ae) (K := M.2) hj hs hv)
  have kk : ∀ (H1 : Heap) (locs1 : List Loc), va_P D vwCl ((x_ws cI cZ (x_ad al ae) M).set o (x_ad al ae o, .inr (ci, ((List.range (x_N ci)).map fun j => x_cv (x_ad al ae) (x_fa (x_ty ci j) M.2 (64 * o + j))).set j (x_cv (x_ad al ae) v)))) H1 → va_D A ((x_ws cI cZ (x_ad al ae) M).set o (x_ad al ae o, .inr (ci, ((List.range (x_N ci)).map fun j => x_cv (x_ad al ae) (x_fa (x_ty ci j) M.2 (64 * o + j))).set j (x_cv (x_ad al ae) v)))) → va_S A s.heap H1 locs1 → W p l e (x_room m) s mi args below meth c H1 locs1 u.1 u.2 Z (F0 mi (pc + 3) lx (st.map (x_cv (x_ad al ae)))) := by
    intro H1 locs1 p1 d1 s1
    rw [e1] at p1 d1
    exact K p l e s mi args below meth c D cI cZ A ae al H1 locs1 lx Z C ⟨p1, d1, s1, hok hM⟩ hl hret h1 h2
  cases hff : (x_T ci j).2.2.2 with
  | false => exact va_put (C := x_R ci) (T := x_T ci) (N := x_N ci) (ci := ci) (own := x_own m) (ref := x_R ci) hx hb hts (x_uw ci hci) (x_ty ci) (x_tyok ci hci) (x_nm ci hci) hown hK hP hD hS o (x_ws_get ho) (x_cl ci hci) j hj (hts _ hw) (fun x h => by rw [x_own0 ci hci j hj] at h; exact h) hff (x_tyok ci hci j hj) (hn _) (hfit _) (by simpa using hj) hd kk
  | true =>
    rcases hfin with q | ⟨q1, q2⟩
    · rw [q] at hff; cases hff
    · exact va_putF (C := x_R ci) (T := x_T ci) (N := x_N ci) (ci := ci) (own := x_own m) (ref := x_R ci) hx hb hts (x_uw ci hci) (x_ty ci) (x_tyok ci hci) (x_nm ci hci) hown hK hP hD hS o (x_ws_get ho) (x_cl ci hci) j hj (hts _ hw) (fun x h => by rw [x_own0 ci hci j hj] at h; exact h) hff (hnm.trans q1) ((x_own0 ci hci j hj).trans q2) (x_tyok ci hci j hj) (hn _) (hfit _) (by simpa using hj) hd kk
theorem x_lt_of {M : x_M} {o : Nat} {q : Nat × Nat} (ho : M.1[o]? = some q) : o < M.1.length := (List.getElem?_eq_some_iff.mp ho).1
theorem x_Ok_i {M : x_M} {r i : Nat} {v : Int32} (h : x_Ok M) (hr : r < 64 * M.1.length) : x_Ok (M.1, x_up M.2.1 r i v, M.2.2) := by
  refine ⟨h.1, h.2.1, fun r' hr' => ⟨?_, (h.2.2.1 r' hr').2⟩, h.2.2.2⟩
  have : r' ≠ r := by have h0 : 64 * M.1.length ≤ r' := hr'; omega
  simp only [x_up, if_neg this]
  exact (h.2.2.1 r' hr').1
/-- putfield of an int -/
theorem x_puti {scr : Option (Nat × (Nat → Int32))} {m : x_Mth} {u : Nat × Nat} {pc : Nat} {ls : List (Nat × Value)} {st : List Value} {M : x_M} {Q : Option Value → x_M → Prop} {idx : Nat} (ci j : Nat) {o : Nat} {v : Int32} (hd : decode (x_code m) pc = .ok (.putfield idx, 3)) (hf : x_FL (x_own m) idx ci j) (ho : M.1[o]? = some (0, ci)) (hty : x_ty ci j = .int)
    (hfin : (x_T ci j).2.2.2 = false ∨ ((x_y m).name = "<init>" ∧ x_R ci = x_own m)) (K : X scr m u (pc + 3) ls st (M.1, x_up M.2.1 (64 * o + j) 0 v, M.2.2) Q) : X scr m u pc ls (.int v :: .ref o :: st) M Q := by
  have hN := x_N64 ci hf.1
  have hj := hf.2.1
  have hlt := x_lt_of ho
  refine x_putG ci j (x_up M.2.1 (64 * o + j) 0 v, M.2.2) hd hf ho hfin (fun ad => by rw [hty]; rfl) (fun ad => by rw [hty]; rfl) (fun r hr => ⟨by simp only [x_up, if_neg hr], rfl, rfl⟩) ?_ (fun h => x_Ok_i h (by omega)) K
  rw [hty]
  simp [x_fa, x_up, upd]
/-- putfield of a boolean -/
theorem x_putz {scr : Option (Nat × (Nat → Int32))} {m : x_Mth} {u : Nat × Nat} {pc : Nat} {ls : List (Nat × Value)} {st : List Value} {M : x_M} {Q : Option Value → x_M → Prop} {idx : Nat} (ci j : Nat) {o : Nat} {v : Int32} (hd : decode (x_code m) pc = .ok (.putfield idx, 3)) (hf : x_FL (x_own m) idx ci j) (ho : M.1[o]? = some (0, ci)) (hty : x_ty ci j = .boolean) (h01 : v = 0 ∨ v = 1)
    (hfin : (x_T ci j).2.2.2 = false ∨ ((x_y m).name = "<init>" ∧ x_R ci = x_own m)) (K : X scr m u (pc + 3) ls st (M.1, x_up M.2.1 (64 * o + j) 0 v, M.2.2) Q) : X scr m u pc ls (.int v :: .ref o :: st) M Q := by
  have hN := x_N64 ci hf.1
  have hj := hf.2.1
  have hlt := x_lt_of ho
  refine x_putG ci j (x_up M.2.1 (64 * o + j) 0 v, M.2.2) hd hf ho hfin (fun ad => by rw [hty]; rcases h01 with rfl | rfl <;> rfl) (fun ad => by rw [hty]; rcases h01 with rfl | rfl <;> rfl) (fun r hr => ⟨by simp only [x_up, if_neg hr], rfl, rfl⟩) ?_ (fun h => x_Ok_i h (by omega)) K
  rw [hty]
  simp [x_fa, x_up, upd]
/-- putfield of a long -/
theorem x_putl {scr : Option (Nat × (Nat → Int32))} {m : x_Mth} {u : Nat × Nat} {pc : Nat} {ls : List (Nat × Value)} {st : List Value} {M : x_M} {Q : Option Value → x_M → Prop} {idx : Nat} (ci j : Nat) {o : Nat} {v : Int64} (hd : decode (x_code m) pc = .ok (.putfield idx, 3)) (hf : x_FL (x_own m) idx ci j) (ho : M.1[o]? = some (0, ci)) (hty : x_ty ci j = .long)
    (hfin : (x_T ci j).2.2.2 = false ∨ ((x_y m).name = "<init>" ∧ x_R ci = x_own m)) (K : X scr m u (pc + 3) ls st (M.1, M.2.1, x_upL M.2.2.1 (64 * o + j) v, M.2.2.2) Q) : X scr m u pc ls (.long v :: .ref o :: st) M Q := by
  have hN := x_N64 ci hf.1
  have hj := hf.2.1
  have hlt := x_lt_of ho
  refine x_putG ci j (M.2.1, x_upL M.2.2.1 (64 * o + j) v, M.2.2.2) hd hf ho hfin (fun ad => by rw [hty]; rfl) (fun ad => by rw [hty]; rfl) (fun r hr => ⟨rfl, by simp only [x_upL, if_neg hr], rfl⟩) ?_ (fun h => ⟨h.1, h.2.1, fun r hr => ⟨(h.2.2.1 r hr).1, ?_, (h.2.2.1 r hr).2.2⟩, h.2.2.2⟩) K
  · rw [hty]
    simp [x_fa, x_upL]
  · have : r ≠ 64 * o + j := by have h0 : 64 * M.1.length ≤ r := hr; omega
    simp only [x_upL, if_neg this]
    exact (h.2.2.1 r hr).2.1
/-- putfield of a reference -/
theorem x_putr {scr : Option (Nat × (Nat → Int32))} {m : x_Mth} {u : Nat × Nat} {pc : Nat} {ls : List (Nat × Value)} {st : List Value} {M : x_M} {Q : Option Value → x_M → Prop} {idx : Nat} (ci j : Nat) {o k : Nat} (hd : decode (x_code m) pc = .ok (.putfield idx, 3)) (hf : x_FL (x_own m) idx ci j) (ho : M.1[o]? = some (0, ci)) (hty : (∃ C, x_ty ci j = .object C) ∨ ∃ t, x_ty ci j = .array t) (hk : k < M.1.length)
    (hfin : (x_T ci j).2.2.2 = false ∨ ((x_y m).name = "<init>" ∧ x_R ci = x_own m)) (K : X scr m u (pc + 3) ls st (M.1, M.2.1, M.2.2.1, x_upR M.2.2.2 (64 * o + j) (some k)) Q) : X scr m u pc ls (.ref k :: .ref o :: st) M Q := by
  have hN := x_N64 ci hf.1
  have hj := hf.2.1
  have hlt := x_lt_of ho
  refine x_putG ci j (M.2.1, M.2.2.1, x_upR M.2.2.2 (64 * o + j) (some k)) hd hf ho hfin (fun ad => by rcases hty with ⟨_, h⟩ | ⟨_, h⟩ <;> rw [h] <;> rfl) (fun ad => by rcases hty with ⟨_, h⟩ | ⟨_, h⟩ <;> rw [h] <;> rfl) (fun r hr => ⟨rfl, rfl, by simp only [x_upR, if_neg hr]⟩) ?_ (fun h => ⟨h.1, fun r k' h' => ?_, fun r hr => ⟨(h.2.2.1 r hr).1, (h.2.2.1 r hr).2.1, ?_⟩, h.2.2.2⟩) K
  · rcases hty with ⟨_, h⟩ | ⟨_, h⟩ <;> rw [h] <;> simp [x_fa, x_upR]
  · by_cases hr : r = 64 * o + j
    · subst hr
      simp [x_upR] at h'
      subst h'
      exact hk
    · simp only [x_upR, if_neg hr] at h'
      exact h.2.1 r k' h'
  · have : r ≠ 64 * o + j := by have h0 : 64 * M.1.length ≤ r := hr; omega
    simp only [x_upR, if_neg this]
    exact (h.2.2.1 r hr).2.2
theorem x_iald {scr : Option (Nat × (Nat → Int32))} {m : x_Mth} {u : Nat × Nat} {pc : Nat} {ls : List (Nat × Value)} {st : List Value} {M : x_M} {Q : Option Value → x_M → Prop} {o n : Nat} {i : Int32} (hd : decode (x_code m) pc = .ok (.iaload, 1)) (ho : M.1[o]? = some (1, n)) (hin : vp_in i n) (K : X scr m u (pc + 1) ls (.int (M.2.1 (64 * o) i.toNatClampNeg) :: st) M Q) : X scr m u pc ls (.int i :: .ref o :: st) M Q := by
  intro p l e s mi args below meth c D cI cZ A ae al H locs lx Z C R hl hret h1 h2
  exact va_iald C.1 C.2.1 C.2.2.2.2.2.2.2.2.1 R.1 o 0 (x_ws_get ho) rfl hin hd (K p l e s mi args below meth c D cI cZ A ae al H locs lx Z C R hl hret h1 h2)
theorem x_zald {scr : Option (Nat × (Nat → Int32))} {m : x_Mth} {u : Nat × Nat} {pc : Nat} {ls : List (Nat × Value)} {st : List Value} {M : x_M} {Q : Option Value → x_M → Prop} {o n : Nat} {i : Int32} (hd : decode (x_code m) pc = .ok (.baload, 1)) (ho : M.1[o]? = some (2, n)) (hin : vp_in i n) (K : X scr m u (pc + 1) ls (.int (M.2.1 (64 * o) i.toNatClampNeg) :: st) M Q) : X scr m u pc ls (.int i :: .ref o :: st) M Q := by
  intro p l e s mi args below meth c D cI cZ A ae al H locs lx Z C R hl hret h1 h2
  exact va_zald C.1 C.2.1 C.2.2.2.2.2.2.2.2.1 R.1 o 1 (x_ws_get ho) rfl hin hd (K p l e s mi args below meth c D cI cZ A ae al H locs lx Z C R hl hret h1 h2)
theorem x_alen {scr : Option (Nat × (Nat → Int32))} {m : x_Mth} {u : Nat × Nat} {pc : Nat} {ls : List (Nat × Value)} {st : List Value} {M : x_M} {Q : Option Value → x_M → Prop} {o n : Nat} {t : Nat} (v : Int32) (hd : decode (x_code m) pc = .ok (.arraylength, 1)) (ho : M.1[o]? = some (t + 1, n)) (hv : Int32.ofNat n = v) (K : X scr m u (pc + 1) ls (.int v :: st) M Q) : X scr m u pc ls (.ref o :: st) M Q := by
  intro p l e s mi args below meth c D cI cZ A ae al H locs lx Z C R hl hret h1 h2
  cases t with
  | zero => exact va_alen C.1 C.2.1 C.2.2.2.2.2.2.2.2.1 R.1 o 0 (x_ws_get ho) rfl hv hd (K p l e s mi args below meth c D cI cZ A ae al H locs lx Z C R hl hret h1 h2)
  | succ t => exact va_alen C.1 C.2.1 C.2.2.2.2.2.2.2.2.1 R.1 o 1 (x_ws_get ho) rfl hv hd (K p l e s mi args below meth c D cI cZ A ae al H locs lx Z C R hl hret h1 h2)
theorem x_ws_setA {cI cZ : ClassId} {ad : Nat → Nat} {M : x_M} {o t n i : Nat} {x : Int32} (hok : x_Ok M) (ho : M.1[o]? = some (t + 1, n)) :
    (x_ws cI cZ ad M).set o (ad o, x_ent cI cZ ad (x_up M.2.1 (64 * o) i x, M.2.2) o (t + 1, n)) = x_ws cI cZ ad (M.1, x_up M.2.1 (64 * o) i x, M.2.2) :=
  x_ws_set hok ho (fun r hr => ⟨by simp only [x_up, if_neg (show r ≠ 64 * o by omega)], rfl, rfl⟩) rfl
theorem x_iast {scr : Option (Nat × (Nat → Int32))} {m : x_Mth} {u : Nat × Nat} {pc : Nat} {ls : List (Nat × Value)} {st : List Value} {M : x_M} {Q : Option Value → x_M → Prop} {o n : Nat} {i x : Int32} (hd : decode (x_code m) pc = .ok (.iastore, 1)) (ho : M.1[o]? = some (1, n)) (hin : vp_in i n) (K : X scr m u (pc + 1) ls st (M.1, x_up M.2.1 (64 * o) i.toNatClampNeg x, M.2.2) Q) : X scr m u pc ls (.int x :: .int i :: .ref o :: st) M Q := by
  intro p l e s mi args below meth c D cI cZ A ae al H locs lx Z C R hl hret h1 h2
  obtain ⟨hP, hD, hS, hM⟩ := R
  have e1 := x_ws_setA (cI := cI) (cZ := cZ) (ad := x_ad al ae) (i := i.toNatClampNeg) (x := x) hM ho
  have e2 : x_ent cI cZ (x_ad al ae) (x_up M.2.1 (64 * o) i.toNatClampNeg x, M.2.2) o (0 + 1, n) = .inl (cI, n, .inl (upd (M.2.1 (64 * o)) i.toNatClampNeg x)) := by simp [x_ent, x_up]
  rw [e2] at e1
  refine va_iast C.1 C.2.1 C.2.2.2.2.2.2.2.2.1 hP hD hS o 0 (x_ws_get ho) rfl hin hd (fun H1 locs1 p1 d1 s1 => ?_)
  have hlt := x_lt_of ho
  exact K p l e s mi args below meth c D cI cZ A ae al H1 locs1 lx Z C ⟨e1 ▸ p1, e1 ▸ d1, s1, x_Ok_i hM (by omega)⟩ hl hret h1 h2
theorem x_nar01 {x : Int32} (h : x = 0 ∨ x = 1) : vp_nar .boolean x = x := by rcases h with rfl | rfl <;> rfl
theorem x_zast {scr : Option (Nat × (Nat → Int32))} {m : x_Mth} {u : Nat × Nat} {pc : Nat} {ls : List (Nat × Value)} {st : List Value} {M : x_M} {Q : Option Value → x_M → Prop} {o n : Nat} {i x : Int32} (hd : decode (x_code m) pc = .ok (.bastore, 1)) (ho : M.1[o]? = some (2, n)) (hin : vp_in i n) (h01 : x = 0 ∨ x = 1) (K : X scr m u (pc + 1) ls st (M.1, x_up M.2.1 (64 * o) i.toNatClampNeg x, M.2.2) Q) : X scr m u pc ls (.int x :: .int i :: .ref o :: st) M Q := by
  intro p l e s mi args below meth c D cI cZ A ae al H locs lx Z C R hl hret h1 h2
  obtain ⟨hP, hD, hS, hM⟩ := R
  have e1 := x_ws_setA (cI := cI) (cZ := cZ) (ad := x_ad al ae) (i := i.toNatClampNeg) (x := x) hM ho
  have e2 : x_ent cI cZ (x_ad al ae) (x_up M.2.1 (64 * o) i.toNatClampNeg x, M.2.2) o (1 + 1, n) = .inl (cZ, n, .inl (upd (M.2.1 (64 * o)) i.toNatClampNeg (vp_nar .boolean x))) := by rw [x_nar01 h01]; simp [x_ent, x_up]
  rw [e2] at e1
  refine va_zast C.1 C.2.1 C.2.2.2.2.2.2.2.2.1 hP hD hS o 1 (x_ws_get ho) rfl hin hd (fun H1 locs1 p1 d1 s1 => ?_)
  have hlt := x_lt_of ho
  exact K p l e s mi args below meth c D cI cZ A ae al H1 locs1 lx Z C ⟨e1 ▸ p1, e1 ▸ d1, s1, x_Ok_i hM (by omega)⟩ hl hret h1 h2
end
section
/-! ===== new cells and calls ===== -/
def x_ne (n : Nat) : Value → Bool
  | .ref k => !(k == n)
  | _ => true
def x_rlt (n : Nat) : Value → Bool
  | .ref k => decide (k < n) || decide (1000000 ≤ k)
  | _ => true
theorem x_cv_up {al ae : Nat → Nat} {n q : Nat} {v : Value} (h : x_ne n v = true) : x_cv (x_ad (va_up al n q) ae) v = x_cv (x_ad al ae) v := by
  cases v with
  | ref k =>
    have hk : k ≠ n := by simpa [x_ne] using h
    simp [x_cv, x_ad, va_up, hk]
  | _ => rfl
theorem x_ent_ad {cI cZ : ClassId} {ad ad' : Nat → Nat} {M : x_M} {k : Nat} {q : Nat × Nat} (h : ∀ r j, M.2.2.2 r = some j → ad' j = ad j) : x_ent cI cZ ad' M.2 k q = x_ent cI cZ ad M.2 k q := by
  obtain ⟨a, b⟩ := q
  match a with
  | 0 =>
    simp only [x_ent]
    congr 2
    apply List.map_congr_left
    intro j _
    cases hty : x_ty b j <;> simp only [x_fa] <;> try rfl
    all_goals
      cases hR : M.2.2.2 (64 * k + j) with
      | none => rfl
      | some z => simp [x_cv, h _ _ hR]
  | 1 => rfl
  | n + 2 => rfl
theorem x_ws_push {cI cZ : ClassId} {al ae : Nat → Nat} {M : x_M} {q : Nat × Nat} {z : Nat} (hM : x_Ok M) : x_ws cI cZ (x_ad (va_up al M.1.length z) ae) (M.1 ++ [q], M.2) = x_ws cI cZ (x_ad al ae) M ++ [(z, x_ent cI cZ (x_ad (va_up al M.1.length z) ae) M.2 M.1.length q)] := by
  have hl := hM.1
  apply List.ext_getElem?
  intro i
  have e0 : (x_ws cI cZ (x_ad al ae) M).length = M.1.length := by simp [x_ws]
  by_cases h : i < M.1.length
  · rw [List.getElem?_append_left (by omega)]
    simp only [x_ws, List.getElem?_mapIdx]
    rw [List.getElem?_append_left h]
    cases hi : M.1[i]? with
    | none => rfl
    | some w =>
      have hi2 : i ≠ M.1.length := by omega
      simp only [Option.map_some]
      rw [x_ent_ad (ad := x_ad al ae) (M := M) (fun r j hr => by have := hM.2.1 r j hr; simp [x_ad, va_up, show j ≠ M.1.length by omega])]
      simp [x_ad, va_up, hi2]
  · rw [List.getElem?_append_right (by omega)]
    simp only [x_ws, List.getElem?_mapIdx, List.length_mapIdx]
    rw [List.getElem?_append_right (by omega)]
    by_cases h2 : i = M.1.length
    · subst h2
      simp [x_ad, va_up, hl]
    · have e1 : ¬ (i - M.1.length) < 1 := by omega
      rw [List.getElem?_eq_none (by simp; omega), List.getElem?_eq_none (by simp; omega)]
      rfl
theorem x_Ok_push {M : x_M} {q : Nat × Nat} (h : x_Ok M) (hl : M.1.length + 1 < 1000000) (hq : q.1 = 0 → q.2 < 11) : x_Ok (M.1 ++ [q], M.2) := by
  refine ⟨by simpa using hl, fun r k hr => ?_, fun r hr => h.2.2.1 r ?_, fun k c hk => ?_⟩
  · have := h.2.1 r k hr
    simp; omega
  · simp at hr; omega
  · by_cases hlt : k < M.1.length
    · rw [List.getElem?_append_left hlt] at hk
      exact h.2.2.2 k c hk
    · rw [List.getElem?_append_right (by omega)] at hk
      have hz := (List.getElem?_eq_some_iff.mp hk).1
      have : k - M.1.length = 0 := by simp at hz; omega
      rw [this] at hk
      simp at hk
      subst hk
      exact hq rfl
theorem x_map_up {al ae : Nat → Nat} {n q : Nat} {st : List Value} (h : st.all (x_ne n) = true) : st.map (x_cv (x_ad (va_up al n q) ae)) = st.map (x_cv (x_ad al ae)) :=
  List.map_congr_left fun v hv => x_cv_up (List.all_eq_true.mp h v hv)
theorem x_lp_up {al ae : Nat → Nat} {n q : Nat} {ls : List (Nat × Value)} (h : (ls.map (·.2)).all (x_ne n) = true) : x_lp (x_ad (va_up al n q) ae) ls = x_lp (x_ad al ae) ls :=
  List.map_congr_left fun v hv => by rw [x_cv_up (List.all_eq_true.mp h v.2 (List.mem_map_of_mem hv))]
def x_okty : FieldType → Bool
  | .float => false
  | .double => false
  | _ => true
theorem x_tyk : ∀ c, c < 11 → ∀ k, k < x_N c → x_okty (x_ty c k) = true := by decide +kernel
theorem x_new {scr : Option (Nat × (Nat → Int32))} {m : x_Mth} {u : Nat × Nat} {pc : Nat} {ls : List (Nat × Value)} {st : List Value} {M : x_M} {Q : Option Value → x_M → Prop} {idx : Nat} (ci : Nat) (n : Nat) (hd : decode (x_code m) pc = .ok (.new idx, 3)) (hci : ci < 11) (hw : Cond.classLink (x_own m) idx (x_R ci) ∈ x_GW) (hi : Cond.instantiable (x_R ci) (x_N ci) ∈ x_GW ∧ Cond.initialized (x_R ci) ∈ x_GW)
    (hn : M.1.length = n) (hc : u.1 + 1 ≤ x_mc m) (hs : u.2 + x_N ci ≤ x_ms m) (hlen : n + 1 < 1000000) (hst : st.all (x_ne n) = true) (hls : (ls.map (·.2)).all (x_ne n) = true)
    (K : X scr m (u.1 + 1, u.2 + x_N ci) (pc + 3) ls (.ref n :: st) (M.1 ++ [(0, ci)], M.2) Q) : X scr m u pc ls st M Q := by
  subst hn
  intro p l e s mi args below meth c D cI cZ A ae al H locs lx Z C R hl hret h1 h2
  obtain ⟨hx, hb, hml, hr, hlk, hown, hnm, hts, hK, hA, hE, hsc⟩ := id C
  obtain ⟨hP, hD, hS, hM⟩ := R
  refine va_new (C := x_R ci) (T := x_T ci) (N := x_N ci) (ci := ci) (own := x_own m) (fs := (List.range (x_N ci)).map fun j => x_fa (x_ty ci j) M.2 (64 * M.1.length + j)) hx hb hts (x_uw ci hci) (x_ty ci) (x_tyok ci hci) hown (hts _ hw) (hts _ hi.1) (hts _ hi.2) hK hP hD hS hA (x_cl ci hci) ?_ hc hs hd (fun q H1 p1 d1 s1 => ?_)
  · intro j hj
    have hN := x_N64 ci hci
    obtain ⟨a1, a2, a3⟩ := hM.2.2.1 (64 * M.1.length + j) (by omega)
    have ho := x_tyk ci hci j hj
    simp only [vp_V, List.getD_eq_getElem?_getD, List.getElem?_map, List.getElem?_range hj, Option.map_some, Option.getD_some]
    cases hty : x_ty ci j <;> rw [hty] at ho <;> simp [x_okty] at ho <;> simp [x_fa, a1, a2, a3, defaultValue]
  · have e1 := x_ws_push (cI := cI) (cZ := cZ) (al := al) (ae := ae) (q := (0, ci)) (z := q) hM
    have e2 : x_ent cI cZ (x_ad (va_up al M.1.length q) ae) M.2 M.1.length (0, ci) = .inr (ci, (List.range (x_N ci)).map fun j => x_fa (x_ty ci j) M.2 (64 * M.1.length + j)) := by
      simp only [x_ent]
      congr 2
      apply List.map_congr_left
      intro j hj
      have hj' := List.mem_range.mp hj
      obtain ⟨a1, a2, a3⟩ := hM.2.2.1 (64 * M.1.length + j) (by omega)
      cases hty : x_ty ci j <;> simp [x_fa, a3, x_cv]
    rw [e2] at e1
    rw [← e1] at p1 d1
    have e3 := x_map_up (al := al) (ae := ae) (q := q) hst
    have e4 := x_lp_up (al := al) (ae := ae) (q := q) hls
    have kk := K p l e s mi args below meth c D cI cZ A ae (va_up al M.1.length q) H1 locs lx Z C ⟨p1, d1, s1, x_Ok_push hM hlen (fun _ => hci)⟩ (by rw [e4]; exact hl) (fun r M' al' H' locs' lx' pc' uc us hq hR hal hle hle2 => hret r M' al' H' locs' lx' pc' uc us hq hR (fun k hk => by
      have hle' : M.1.length + 1 ≤ M'.1.length := by simpa using hle
      rw [hal k (by simp; omega)]
      simp only [va_up]
      rw [if_neg (by omega)]) (by simp at hle; omega) (by simp at hle2; omega)) hc hs
    simp only [List.map_cons, e3] at kk
    simpa [x_cv, x_ad, va_up, hM.1] using kk
theorem x_newa {scr : Option (Nat × (Nat → Int32))} {m : x_Mth} {u : Nat × Nat} {pc : Nat} {ls : List (Nat × Value)} {st : List Value} {M : x_M} {Q : Option Value → x_M → Prop} {atype : ArrayType} (t : Nat) (ht : (t = 1 ∧ atype = .int) ∨ (t = 2 ∧ atype = .boolean)) {z : Int32} (N n : Nat) (hd : decode (x_code m) pc = .ok (.newarray atype, 2))
    (hn : M.1.length = n) (hz : ¬ z < 0) (hN : z.toNatClampNeg = N) (hb2 : N * 4 ≤ 536870912) (hc : u.1 + 1 ≤ x_mc m) (hs : u.2 + N ≤ x_ms m) (hlen : n + 1 < 1000000) (hst : st.all (x_ne n) = true) (hls : (ls.map (·.2)).all (x_ne n) = true)
    (K : X scr m (u.1 + 1, u.2 + N) (pc + 2) ls (.ref n :: st) (M.1 ++ [(t, N)], M.2) Q) : X scr m u pc ls (.int z :: st) M Q := by
  subst hn
  intro p l e s mi args below meth c D cI cZ A ae al H locs lx Z C R hl hret h1 h2
  obtain ⟨hx, hb, hml, hr, hlk, hown, hnm, hts, hK, hA, hE, hsc⟩ := id C
  obtain ⟨hP, hD, hS, hM⟩ := R
  have a1 := (hM.2.2.1 (64 * M.1.length) (Nat.le_refl _)).1
  have key : ∀ (ty : FieldType) (cT : ClassId), newarray.typeOf atype = ty → (Cond.arrayClass (newarray.typeOf atype)).before args s = true → defaultValue ty = .int 0 → N * componentBytes ty ≤ 536870912 → (∃ i : Nat, ([(cI, .int), (cZ, .boolean)] : List (ClassId × FieldType))[i]? = some (cT, ty)) → (∀ cA, va_RA s cA ty → va_RA s cT ty → cA = cT) → x_ent cI cZ (x_ad al ae) M.2 M.1.length (t, N) = .inl (cT, N, .inl (fun _ => 0)) → (∀ ad, x_ent cI cZ ad M.2 M.1.length (t, N) = .inl (cT, N, .inl (fun _ => 0))) → t ≠ 0 →
      W p l e (x_room m) s mi args below meth c H locs u.1 u.2 Z (F0 mi pc lx ((Value.int z :: st).map (x_cv (x_ad al ae)))) := by
    intro ty cT hty harr hdef hbt hmem hinj he0 he ht0
    refine va_newa (a0 := (N, .inl (fun _ => 0))) hx hb harr hty hK hP hD hS hA (fun cA => by rw [vp_cell_i, hdef]) hz hN hbt hc hs hd (fun q cA H1 k1 p1 d1 s1 => ?_)
    have hcA : cA = cT := by
      obtain ⟨i, hi⟩ := hmem
      exact hinj cA (k1.2 2 (cA, ty) rfl).2 (hK.2 i (cT, ty) hi).2
    subst hcA
    have e1 := x_ws_push (cI := cI) (cZ := cZ) (al := al) (ae := ae) (q := (t, N)) (z := q) hM
    rw [he] at e1
    rw [← e1] at p1 d1
    have e3 := x_map_up (al := al) (ae := ae) (q := q) hst
    have e4 := x_lp_up (al := al) (ae := ae) (q := q) hls
    have kk := K p l e s mi args below meth c D cI cZ A ae (va_up al M.1.length q) H1 locs lx Z C ⟨p1, d1, s1, x_Ok_push hM hlen (fun h => absurd h ht0)⟩ (by rw [e4]; exact hl) (fun r M' al' H' locs' lx' pc' uc us hq hR hal hle hle2 => hret r M' al' H' locs' lx' pc' uc us hq hR (fun k hk => by
      have hle' : M.1.length + 1 ≤ M'.1.length := by simpa using hle
      rw [hal k (by simp; omega)]
      simp only [va_up]
      rw [if_neg (by omega)]) (by simp at hle; omega) (by simp at hle2; omega)) hc hs
    simp only [List.map_cons, e3] at kk
    simpa [x_cv, x_ad, va_up, hM.1] using kk
  have inj : ∀ (ty : FieldType), (ty = .int ∨ ty = .boolean) → ∀ cA cT, va_RA s cA ty → va_RA s cT ty → cA = cT := by
    intro ty hty cA cT g1 g2
    rcases hty with rfl | rfl <;> exact Option.some.inj (g1.symm.trans g2)
  rcases ht with ⟨rfl, rfl⟩ | ⟨rfl, rfl⟩
  · exact key .int cI rfl (hts _ x_arrI) rfl hb2 ⟨0, rfl⟩ (fun cA g1 g2 => inj .int (Or.inl rfl) cA cI g1 g2) (by simp [x_ent, a1]) (fun ad => by simp [x_ent, a1]) (by decide)
  · exact key .boolean cZ rfl (hts _ x_arrZ) rfl (by show N * 1 ≤ _; omega) ⟨1, rfl⟩ (fun cA g1 g2 => inj .boolean (Or.inr rfl) cA cZ g1 g2) (by simp [x_ent, a1]) (fun ad => by simp [x_ent, a1]) (by decide)
end
section
/-! ===== a method's pure run gives its contract; a contract gives a call ===== -/
def x_A (al : Nat → Nat) (n sz : Nat) : Nat → Prop := fun q => (∃ k, k < n ∧ q = al k) ∨ sz ≤ q
def x_PreB (D : va_G) (cI cZ : ClassId) (ae al : Nat → Nat) (M : x_M) (sz : Nat) : State → Prop := fun U => U.heap.size = sz ∧ va_P D vwCl (x_ws cI cZ (x_ad al ae) M) U.heap ∧ va_K D vwCl [(cI, .int), (cZ, .boolean)] U ∧ va_D (fun _ => True) (x_ws cI cZ (x_ad al ae) M) ∧ x_Ok M ∧ x_Ext ae (x_A al M.1.length sz) U U.heap
def x_Post (D : va_G) (cI cZ : ClassId) (ae al : Nat → Nat) (M : x_M) (sz mc : Nat) (Q : Option Value → x_M → Prop) : Array Value → State → Outcome → State → Prop := fun _ st oc t =>
  (∃ (r : Option Value) (M' : x_M) (al' : Nat → Nat), oc = .returned (r.map (x_cv (x_ad al' ae))) ∧ Q r M' ∧ va_P D vwCl (x_ws cI cZ (x_ad al' ae) M') t.heap ∧ va_D (x_A al M.1.length sz) (x_ws cI cZ (x_ad al' ae) M') ∧ x_Ok M' ∧ (∀ k, k < M.1.length ∨ M'.1.length ≤ k → al' k = al k) ∧ M.1.length ≤ M'.1.length ∧ M'.1.length ≤ M.1.length + mc) ∧ va_F (x_A al M.1.length sz) st t
theorem x_lp_args (ad : Nat → Nat) : ∀ (As : List Value) (i : Nat), x_lp ad (lv_args i As) = lv_args i (As.map (x_cv ad))
  | [], _ => rfl
  | v :: vs, i => by
    simp only [lv_args, List.map_cons, x_cv_cat]
    show (i, x_cv ad v) :: x_lp ad _ = _
    rw [x_lp_args ad vs]
theorem x_sl_len (ad : Nat → Nat) (As : List Value) : (lg_sl (As.map (x_cv ad))).length = (lg_sl As).length := by
  induction As with
  | nil => rfl
  | cons v vs ih =>
    simp only [lg_sl, List.map_cons, List.flatMap_cons, List.length_append, x_cv_cat] at ih ⊢
    rw [ih]
    by_cases h : v.category = 2 <;> simp [h]
theorem x_met {m : x_Mth} {As : List Value} {M : x_M} {Q : Option Value → x_M → Prop} (hy : plainName (x_y m).cls = true) (hown : x_own m = (x_y m).cls) (hlen : (lg_sl As).length ≤ x_maxL m) (h : X none m (0, 0) 0 (lv_args 0 As) [] M Q)
    (l : Launch) (D : va_G) (cI cZ : ClassId) (ae al : Nat → Nat) (sz : Nat) :
    Met l (x_y m) (Cond.code (x_y m) (x_code m) (x_maxL m) (x_ret m) :: x_GW) (x_room m) (va_Pc (As.map (x_cv (x_ad al ae))) (x_PreB D cI cZ ae al M sz)) (x_Post D cI cZ ae al M sz (x_mc m) Q) (x_mc m) (x_ms m) (x_A al M.1.length sz) := by
  refine Met.ofW (cc := x_code m) (maxL := x_maxL m) (ret := x_ret m) hy rfl ?_
  intro p e s mi args below meth c s₁ B hml hv
  obtain ⟨rfl, hsz, hP, hK, hD, hM, hE⟩ := hv
  have hts0 := atoms_spec (ws := Cond.code (x_y m) (x_code m) (x_maxL m) (x_ret m) :: x_GW) B.pre
  have hts : ∀ w ∈ x_GW, w.before _ s = true := fun w hw => hts0 w (List.mem_cons_of_mem _ hw)
  have hfc : s.vm.findClass (x_own m) = some mi.cls := by rw [hown]; exact findClass_of_methodNamed B.named
  have hnm : meth.name = (x_y m).name := (name_of_methodNamed B.named B.method).1
  subst hsz
  have hr := B.returns
  rw [lg_entry_eq]
  have hl0 := lv_entry (As.map (x_cv (x_ad al ae))) (n := x_maxL m) (by rw [x_sl_len]; exact hlen)
  rw [← x_lp_args] at hl0
  have hA : ∀ q, s.heap.size ≤ q → x_A al M.1.length s.heap.size q := fun q hq => Or.inr hq
  have hD2 : va_D (x_A al M.1.length s.heap.size) (x_ws cI cZ (x_ad al ae) M) := by
    refine hD.weaken fun k q hk _ => ?_
    have hk2 : k < M.1.length := by
      have := (List.getElem?_eq_some_iff.mp hk).1
      simpa [x_ws] using this
    cases hq : M.1[k]? with
    | none => rw [List.getElem?_eq_none_iff] at hq; omega
    | some w =>
      have h1 := x_ws_get (cI := cI) (cZ := cZ) (ad := x_ad al ae) hq
      rw [h1] at hk
      cases hk
      have := hM.1
      exact Or.inl ⟨k, hk2, by simp [x_ad, show k < 1000000 by omega]⟩
  exact h p l e s mi _ below meth c D cI cZ (x_A al M.1.length s.heap.size) ae al s.heap [] _ _
    ⟨B.exec, B.bytes, hml, hr, B.notSynchronized, hfc, hnm, hts, hK, hA, hE, fun L xs hh => by cases hh⟩
    ⟨hP, hD2, va_S.rf, hM⟩ hl0
    (fun r M' al' H' locs' lx' pc' uc us hq R' hal hle hle2 hri huc hus => by
      have hpost : ∀ t : State, t.heap = H' → x_Post D cI cZ ae al M s.heap.size (x_mc m) Q ((As.map (x_cv (x_ad al ae))).toArray) s (.returned (r.map (x_cv (x_ad al' ae)))) t := fun t ht =>
        ⟨⟨r, M', al', rfl, hq, by rw [ht]; exact R'.1, R'.2.1, R'.2.2.2, hal, hle, by simpa using hle2⟩, R'.2.2.1.F ht⟩
      refine W.widen (k := x_mc m) (n := x_ms m) huc hus ?_
      match r, hri with
      | none, hri => exact W.vret B.exec B.bytes (hr.trans hri.2) (fun t ht _ => hpost t ht) R'.2.2.1.2.2 hri.1 B.notSynchronized
      | some (.int v), hri =>
        obtain ⟨hd, ty, h1, h2⟩ := hri
        exact W.zret B.exec B.bytes (hr.trans h1) h2 (fun t ht _ => hpost t ht) R'.2.2.1.2.2 hd B.notSynchronized
      | some (.long v), hri => exact W.lret B.exec B.bytes (hr.trans hri.2) (fun t ht _ => hpost t ht) R'.2.2.1.2.2 hri.1 B.notSynchronized)
    (Nat.zero_le _) (Nat.zero_le _)
theorem x_blind {D : va_G} {cI cZ : ClassId} {ae al : Nat → Nat} {M : x_M} {sz : Nat} {av : List Value} : FrameBlind (va_Pc av (x_PreB D cI cZ ae al M sz)) := fun a U g mk q => by
  obtain ⟨e, h1, h2, h3, h4, h5, h6⟩ := q
  exact ⟨e, h1, h2, va_K.moved (u := U) (U := U.calling g mk a) (Vm.Alike.refl U.vm) h3, h4, h5, x_Ext.same (s := U) h6 rfl⟩
theorem x_sub_A {D : va_G} {cI cZ : ClassId} {A : Nat → Prop} {ae al : Nat → Nat} {M : x_M} {s : State} {H : Heap} {locs : List Loc} (R : x_Rep D cI cZ A (x_ad al ae) M s.heap H locs) (hA : ∀ q, s.heap.size ≤ q → A q) : ∀ q, x_A al M.1.length H.size q → A q := by
  rintro q (⟨k, hk, rfl⟩ | hq)
  · cases hw : M.1[k]? with
    | none => rw [List.getElem?_eq_none_iff] at hw; omega
    | some w =>
      have h1 := R.2.1.2 k _ (x_ws_get hw)
      have := R.2.2.2.1
      simpa [x_ad, show k < 1000000 by omega] using h1
  · exact hA q (Nat.le_trans R.2.2.1.1 hq)
theorem x_pre {scr : Option (Nat × (Nat → Int32))} {m : x_Mth} {p : Program} {s : State} {mi : MethodId} {args : Array Value} {meth : Method} {c : Code} {D : va_G} {cI cZ : ClassId} {A : Nat → Prop} {ae al : Nat → Nat} {M : x_M} {H : Heap} {locs : List Loc} (C : x_Ctx scr m p s mi args meth c D cI cZ A ae) (R : x_Rep D cI cZ A (x_ad al ae) M s.heap H locs) (av : List Value) :
    ∀ U : State, U.heap = H → s.WarmedH U.vm → va_Pc av (x_PreB D cI cZ ae al M H.size) av.toArray U := by
  obtain ⟨hx, hb, hml, hr, hlk, hown, hnm, hts, hK, hA, hE, hsc⟩ := id C
  intro U hU hW
  refine ⟨rfl, by rw [hU], by rw [hU]; exact R.1, va_K.moved hW.alike hK, R.2.1.weaken (fun _ _ _ _ => trivial), R.2.2.2, ?_⟩
  rw [hU]
  exact ((hE.kept R.2.2.1.2.1).narrow (x_sub_A R hA)).warm hW
theorem x_map_rlt {al al' ae : Nat → Nat} {n : Nat} {st : List Value} (hal : ∀ k, k < n → al' k = al k) (h : st.all (x_rlt n) = true) : st.map (x_cv (x_ad al' ae)) = st.map (x_cv (x_ad al ae)) := by
  refine List.map_congr_left fun v hv => ?_
  have h1 := List.all_eq_true.mp h v hv
  cases v with
  | ref k =>
    simp only [x_rlt, Bool.or_eq_true, decide_eq_true_eq] at h1
    simp only [x_cv, x_ad]
    by_cases hk : k < 1000000
    · rw [if_pos hk, if_pos hk, hal k (h1.elim id (fun g => absurd hk (Nat.not_lt.mpr g)))]
    · rw [if_neg hk, if_neg hk]
  | _ => rfl
theorem x_lp_rlt {al al' ae : Nat → Nat} {n : Nat} {ls : List (Nat × Value)} (hal : ∀ k, k < n → al' k = al k) (h : (ls.map (·.2)).all (x_rlt n) = true) : x_lp (x_ad al' ae) ls = x_lp (x_ad al ae) ls := by
  refine List.map_congr_left fun v hv => ?_
  have h1 := x_map_rlt (ae := ae) (st := [v.2]) hal (by simpa using List.all_eq_true.mp h v.2 (List.mem_map_of_mem hv))
  have h2 : x_cv (x_ad al' ae) v.2 = x_cv (x_ad al ae) v.2 := by simpa using h1
  rw [h2]
/-- behind a call: the caller goes on in the callee's world -/
theorem x_callK {scr : Option (Nat × (Nat → Int32))} {m m' : x_Mth} {u : Nat × Nat} {pc : Nat} {ls : List (Nat × Value)} {st rest Ar : List Value} {M : x_M} {Q : Option Value → x_M → Prop} {Q' : Option Value → x_M → Prop}
    (hrk : x_mc m' = 0 ∨ (rest.all (x_rlt M.1.length) = true ∧ (ls.map (·.2)).all (x_rlt M.1.length) = true)) (hc : u.1 + x_mc m' ≤ x_mc m ∧ u.2 + x_ms m' ≤ x_ms m)
    (hrun : ∀ (p : Program) (l : Launch) (e : Env) (s : State) (mi : MethodId) (args : Array Value) (below : List Frame) (meth : Method) (c : Code) (D : va_G) (cI cZ : ClassId) (A : Nat → Prop) (ae al : Nat → Nat) (H : Heap) (locs : List Loc) (lx : Array Slot),
      x_Ctx scr m p s mi args meth c D cI cZ A ae → x_Rep D cI cZ A (x_ad al ae) M s.heap H locs → lv_has lx (x_maxL m) (x_lp (x_ad al ae) ls) →
      va_Run p l e (x_room m) s mi args below meth c H locs u.1 u.2 (x_mc m') (x_ms m') (F0 mi pc lx (st.map (x_cv (x_ad al ae)))) (rest.map (x_cv (x_ad al ae))) (x_Post D cI cZ ae al M H.size (x_mc m') Q' (Ar.map (x_cv (x_ad al ae))).toArray) (x_A al M.1.length H.size))
    (K : ∀ r M', Q' r M' → X scr m (u.1 + x_mc m', u.2 + x_ms m') (pc + 3) ls (r.toList ++ rest) M' Q) : X scr m u pc ls st M Q := by
  intro p l e s mi args below meth c D cI cZ A ae al H locs lx Z C R hl hret h1 h2 T hT XX
  obtain ⟨hx, hb, hml, hr, hlk, hown, hnm, hts, hK, hA, hE, hsc⟩ := id C
  obtain ⟨v, st₀, t, T', L, h0, X', hL, e1, e2, ⟨⟨r, M', al', hv, hq, p1, d1, ok1, hal, hle, hle2⟩, hz, hk⟩, sx⟩ := hrun p l e s mi args below meth c D cI cZ A ae al H locs lx C R hl T hT XX
  have hsub := x_sub_A R hA
  rw [h0] at hz hk
  rw [← e1] at hz hk p1
  cases hv
  have hS := R.2.2.1
  have hS1 : va_S A s.heap T'.heap (locs ++ L) := ⟨Nat.le_trans hS.1 hz, fun q g1 g2 => by
      rw [hk q (Nat.lt_of_lt_of_le g1 hS.1) (fun z => g2 (hsub q z))]; exact hS.2.1 q g1 g2, fun q hq => by
      rcases List.mem_append.mp hq with g | g
      · exact hS.2.2 q g
      · exact hsub _ (hL q g)⟩
  have hst : rest.map (x_cv (x_ad al' ae)) = rest.map (x_cv (x_ad al ae)) ∧ x_lp (x_ad al' ae) ls = x_lp (x_ad al ae) ls := by
    rcases hrk with hm | ⟨g1, g2⟩
    · have : al' = al := by
        funext k
        apply hal
        omega
      rw [this]
      exact ⟨rfl, rfl⟩
    · exact ⟨x_map_rlt (fun k hk => hal k (Or.inl hk)) g1, x_lp_rlt (fun k hk => hal k (Or.inl hk)) g2⟩
  have kk := K r M' hq p l e s mi args below meth c D cI cZ A ae al' T'.heap (locs ++ L) lx Z C ⟨p1, d1.weaken (fun _ q _ g => hsub _ g), hS1, ok1⟩ (by rw [hst.2]; exact hl)
    (fun r2 M2 al2 H2 locs2 lx2 pc2 uc us q2 R2 hal2 hl2 hl3 => hret r2 M2 al2 H2 locs2 lx2 pc2 uc us q2 R2 (fun k hk => by rw [hal2 k (by omega), hal k (by omega)]) (by omega) (by dsimp only at hl3; omega)) hc.1 hc.2
  rw [List.map_append, hst.1] at kk
  obtain ⟨t2, a1, b1⟩ := kk T' rfl X'
  refine ⟨t2, sx t2 ?_, b1⟩
  cases r <;> exact a1
/-- what a method's name, code and tables give, for every call of it -/
def x_MI (m : x_Mth) (n : Nat) : Prop := plainName (x_y m).cls = true ∧ x_own m = (x_y m).cls ∧ Cond.initialized (x_y m).cls ∈ x_GW ∧ Cond.code (x_y m) (x_code m) (x_maxL m) (x_ret m) ∈ x_GW ∧ (x_y m).cls ≠ "java/lang/invoke/MethodHandle" ∧ (x_y m).cls ≠ "java/lang/invoke/VarHandle" ∧ (parseMethodDescriptor (x_y m).desc).map (fun d => d.parameters.length) = some n
def x_MV (m : x_Mth) (n : Nat) : Prop := x_MI m n ∧ Cond.instanceMethod (x_y m) ∈ x_GW ∧ Cond.selects (x_y m).cls (x_y m) (x_y m) ∈ x_GW
def x_MS (m : x_Mth) (n : Nat) : Prop := x_MI m n ∧ Cond.static (x_y m) ∈ x_GW
def x_MC (m : x_Mth) (n : Nat) : Prop := x_MI m n ∧ Cond.instanceMethod (x_y m) ∈ x_GW ∧ (x_y m).name = "<init>" ∧ x_ret m = none
theorem x_goodGW {m : x_Mth} (h : Cond.code (x_y m) (x_code m) (x_maxL m) (x_ret m) ∈ x_GW) : GoodIn x_GW (Cond.code (x_y m) (x_code m) (x_maxL m) (x_ret m) :: x_GW) := by
  intro w hw
  have h1 : w ∈ x_GW := by
    rcases List.mem_cons.mp hw with rfl | h1
    · exact h
    · exact h1
  exact ⟨h1, good_of_word (List.mem_filter.mp h1).2⟩
theorem x_callB {m m' : x_Mth} {n idx : Nat} {s : State} {args : Array Value} (hm : x_MI m' n) (hts : ∀ w ∈ x_GW, w.before args s = true) (hl : Cond.methodLink (x_own m) idx (x_y m') ∈ x_GW) (hR : x_fr m' + 1 ≤ x_fr m ∧ 8 + (x_maxL m' + 11) + x_lo m' ≤ x_lo m) :
    CallB (x_room m) s args (x_own m) idx (x_y m') (x_code m') (x_maxL m') (x_ret m') (Cond.code (x_y m') (x_code m') (x_maxL m') (x_ret m') :: x_GW) (x_room m') (x_mc m') (x_ms m') n :=
  callB_of n hts (x_goodGW hm.2.2.2.1) rfl rfl rfl (hts _ hm.2.2.1) (hts _ hl) hm.2.2.2.2 hR
/-- the sum of the words of what lies below the arguments -/
abbrev x_cat (st : List Value) : Nat := (st.map fun v => v.category).sum
theorem x_cat_cv (ad : Nat → Nat) (st : List Value) : ((st.map (x_cv ad)).map fun v => v.category).sum = x_cat st := by
  simp only [x_cat, List.map_map]
  congr 1
  exact List.map_congr_left fun v _ => x_cv_cat ad v
theorem x_callV {scr : Option (Nat × (Nat → Int32))} {m : x_Mth} {u : Nat × Nat} {pc : Nat} {ls : List (Nat × Value)} {M : x_M} {Q : Option Value → x_M → Prop} {idx : Nat} (m' : x_Mth) (As rest : List Value) (b ci n : Nat) (st : List Value) (hst : st = As.reverse ++ .ref b :: rest) (hd : decode (x_code m) pc = .ok (.invokevirtual idx, 3)) (hl : Cond.methodLink (x_own m) idx (x_y m') ∈ x_GW) (hm : x_MV m' n) (hn : As.length = n)
    (hR : x_fr m' + 1 ≤ x_fr m ∧ 8 + (x_maxL m' + 11) + x_lo m' ≤ x_lo m) (hc : u.1 + x_mc m' ≤ x_mc m ∧ u.2 + x_ms m' ≤ x_ms m) (hw : x_cat rest ≤ 8) (ho : M.1[b]? = some (0, ci)) (hci : ci < 11) (hcl : (x_y m').cls = x_R ci) (hlen : (lg_sl (.ref b :: As)).length ≤ x_maxL m')
    (hrk : x_mc m' = 0 ∨ (rest.all (x_rlt M.1.length) = true ∧ (ls.map (·.2)).all (x_rlt M.1.length) = true))
    (K : X none m' (0, 0) 0 (lv_args 0 (.ref b :: As)) [] M (fun r M' => X scr m (u.1 + x_mc m', u.2 + x_ms m') (pc + 3) ls (r.toList ++ rest) M' Q)) : X scr m u pc ls st M Q := by
  refine x_callK (Ar := .ref b :: As) (rest := rest) hrk hc (fun p l e s mi args below meth c D cI cZ A ae al H locs lx C R hlx => ?_) (fun r M' h => h)
  subst hst
  obtain ⟨hx, hb, hml, hr, hlk, hown, hnm, hts, hK, hA, hE, hsc⟩ := id C
  have hmet := x_met hm.1.1 hm.1.2.1 hlen K l D cI cZ ae al H.size
  have hb1 : x_ad al ae b = al b := by have := R.2.2.2.1; have := x_lt_of ho; simp [x_ad, show b < 1000000 by omega]
  have cw : CallW (x_room m) s args (x_own m) (x_y m').cls idx (x_y m') (x_code m') (x_maxL m') (x_ret m') (Cond.code (x_y m') (x_code m') (x_maxL m') (x_ret m') :: x_GW) (x_room m') (x_mc m') (x_ms m') n := ⟨x_callB hm.1 hts hl hR, hts _ hm.2.1, hts _ hm.2.2⟩
  have hrv : ∃ cell : Cell, H[x_ad al ae b]? = some cell ∧ cell.vm.isStatics = false ∧ s.vm.findClass (x_y m').cls = some cell.cls := by
    rw [hcl]
    exact va_recv hK R.1 (x_cl ci hci) (x_ws_get ho)
  exact va_runV (As := As.map (x_cv (x_ad al ae))) (rest := rest.map (x_cv (x_ad al ae))) (b := x_ad al ae b) (cc := x_code m) (nL := x_maxL m) ⟨hx, hb, hml, hown, hts⟩ hmet cw ⟨x_blind, hrv, x_pre C R _⟩ rfl (by rw [List.length_map]; exact hn) hlx.1 (by simp [x_cv]) (lv_room (by rw [x_cat_cv]; exact hw)) hd hc
theorem x_callS {scr : Option (Nat × (Nat → Int32))} {m : x_Mth} {u : Nat × Nat} {pc : Nat} {ls : List (Nat × Value)} {M : x_M} {Q : Option Value → x_M → Prop} {idx : Nat} (m' : x_Mth) (As rest : List Value) (n : Nat) (st : List Value) (hst : st = As.reverse ++ rest) (hd : decode (x_code m) pc = .ok (.invokestatic idx, 3)) (hl : Cond.methodLink (x_own m) idx (x_y m') ∈ x_GW) (hm : x_MS m' n) (hn : As.length = n)
    (hR : x_fr m' + 1 ≤ x_fr m ∧ 8 + (x_maxL m' + 11) + x_lo m' ≤ x_lo m) (hc : u.1 + x_mc m' ≤ x_mc m ∧ u.2 + x_ms m' ≤ x_ms m) (hw : x_cat rest ≤ 8) (hlen : (lg_sl As).length ≤ x_maxL m')
    (hrk : x_mc m' = 0 ∨ (rest.all (x_rlt M.1.length) = true ∧ (ls.map (·.2)).all (x_rlt M.1.length) = true))
    (K : X none m' (0, 0) 0 (lv_args 0 As) [] M (fun r M' => X scr m (u.1 + x_mc m', u.2 + x_ms m') (pc + 3) ls (r.toList ++ rest) M' Q)) : X scr m u pc ls st M Q := by
  refine x_callK (Ar := As) (rest := rest) hrk hc (fun p l e s mi args below meth c D cI cZ A ae al H locs lx C R hlx => ?_) (fun r M' h => h)
  subst hst
  obtain ⟨hx, hb, hml, hr, hlk, hown, hnm, hts, hK, hA, hE, hsc⟩ := id C
  have hmet := x_met hm.1.1 hm.1.2.1 hlen K l D cI cZ ae al H.size
  exact va_runS (As := As.map (x_cv (x_ad al ae))) (rest := rest.map (x_cv (x_ad al ae))) (cc := x_code m) (nL := x_maxL m) ⟨hx, hb, hml, hown, hts⟩ hmet ⟨x_callB hm.1 hts hl hR, hts _ hm.2⟩ ⟨x_blind, x_pre C R _⟩ rfl (by rw [List.length_map]; exact hn) hlx.1 (by simp) (lv_room (by rw [x_cat_cv]; exact hw)) hd hc
theorem x_callC {scr : Option (Nat × (Nat → Int32))} {m : x_Mth} {u : Nat × Nat} {pc : Nat} {ls : List (Nat × Value)} {M : x_M} {Q : Option Value → x_M → Prop} {idx : Nat} (m' : x_Mth) (As rest : List Value) (b n : Nat) (st : List Value) (hst : st = As.reverse ++ .ref b :: rest) (hd : decode (x_code m) pc = .ok (.invokespecial idx, 3)) (hl : Cond.methodLink (x_own m) idx (x_y m') ∈ x_GW) (hm : x_MC m' n) (hn : As.length = n)
    (hR : x_fr m' + 1 ≤ x_fr m ∧ 8 + (x_maxL m' + 11) + x_lo m' ≤ x_lo m) (hc : u.1 + x_mc m' ≤ x_mc m ∧ u.2 + x_ms m' ≤ x_ms m) (hw : x_cat rest ≤ 8) (hlen : (lg_sl (.ref b :: As)).length ≤ x_maxL m')
    (hrk : x_mc m' = 0 ∨ (rest.all (x_rlt M.1.length) = true ∧ (ls.map (·.2)).all (x_rlt M.1.length) = true))
    (K : X none m' (0, 0) 0 (lv_args 0 (.ref b :: As)) [] M (fun r M' => X scr m (u.1 + x_mc m', u.2 + x_ms m') (pc + 3) ls (r.toList ++ rest) M' Q)) : X scr m u pc ls st M Q := by
  refine x_callK (Ar := .ref b :: As) (rest := rest) hrk hc (fun p l e s mi args below meth c D cI cZ A ae al H locs lx C R hlx => ?_) (fun r M' h => h)
  subst hst
  obtain ⟨hx, hb, hml, hr, hlk, hown, hnm, hts, hK, hA, hE, hsc⟩ := id C
  have hmet := x_met hm.1.1 hm.1.2.1 hlen K l D cI cZ ae al H.size
  have hcb := x_callB hm.1 hts hl hR
  rw [hm.2.2.2] at hmet hcb
  exact va_runI (As := As.map (x_cv (x_ad al ae))) (rest := rest.map (x_cv (x_ad al ae))) (b := x_ad al ae b) (cc := x_code m) (nL := x_maxL m) ⟨hx, hb, hml, hown, hts⟩ hmet ⟨hcb, hm.2.2.1, hts _ hm.2.1⟩ ⟨x_blind, x_pre C R _⟩ rfl (by rw [List.length_map]; exact hn) hlx.1 (by simp [x_cv]) (lv_room (by rw [x_cat_cv]; exact hw)) hd hc
end
section
/-! ===== Object's constructor, a nest mate's constructor, Math, texts, statics, the script ===== -/
theorem x_objInit {scr : Option (Nat × (Nat → Int32))} {m : x_Mth} {u : Nat × Nat} {pc : Nat} {ls : List (Nat × Value)} {st : List Value} {M : x_M} {Q : Option Value → x_M → Prop} {idx o : Nat} (hd : decode (x_code m) pc = .ok (.invokespecial idx, 3)) (hl : Cond.methodLink (x_own m) idx objectInit ∈ x_GW) (hf : 1 ≤ x_fr m) (hw : x_cat st + 12 ≤ x_lo m)
    (K : X scr m u (pc + 3) ls st M Q) : X scr m u pc ls (.ref o :: st) M Q := by
  intro p l e s mi args below meth c D cI cZ A ae al H locs lx Z C R hlx hret h1 h2
  obtain ⟨hx, hb, hml, hr, hlk, hown, hnm, hts, hK, hA, hE, hsc⟩ := id C
  refine W.objInit hx hb hown (hts _ hl) (hts _ x_obj.1) (hts _ x_obj.2) rfl (by rw [hml]; exact hlx.1) rfl hd hf ?_ (K p l e s mi args below meth c D cI cZ A ae al H locs lx Z C R hlx hret h1 h2)
  show 2 * 0 + ((st.map (x_cv (x_ad al ae))).map fun v => v.category).sum + 12 ≤ x_lo m
  rw [x_cat_cv]
  omega
theorem x_callN {scr : Option (Nat × (Nat → Int32))} {m : x_Mth} {u : Nat × Nat} {pc : Nat} {ls : List (Nat × Value)} {M : x_M} {Q : Option Value → x_M → Prop} (m' : x_Mth) (As rest : List Value) (b n : Nat) (st : List Value) (hst : st = As.reverse ++ .ref b :: rest) (hd : decode (x_code m) pc = .ok (.invokespecial 9, 3)) (ho : x_own m = "HeaderWays") (hy : x_y m' = ⟨"HeaderWays$Net", "<init>", "()V"⟩) (hm : x_MC m' n) (hn : As.length = n)
    (hR : x_fr m' + 1 ≤ x_fr m ∧ 8 + (x_maxL m' + 11) + x_lo m' ≤ x_lo m) (hc : u.1 + x_mc m' ≤ x_mc m ∧ u.2 + x_ms m' ≤ x_ms m) (hw : x_cat rest ≤ 8) (hlen : (lg_sl (.ref b :: As)).length ≤ x_maxL m')
    (hrk : x_mc m' = 0 ∨ (rest.all (x_rlt M.1.length) = true ∧ (ls.map (·.2)).all (x_rlt M.1.length) = true))
    (K : X none m' (0, 0) 0 (lv_args 0 (.ref b :: As)) [] M (fun r M' => X scr m (u.1 + x_mc m', u.2 + x_ms m') (pc + 3) ls (r.toList ++ rest) M' Q)) : X scr m u pc ls st M Q := by
  refine x_callK (Ar := .ref b :: As) (rest := rest) hrk hc (fun p l e s mi args below meth c D cI cZ A ae al H locs lx C R hlx => ?_) (fun r M' h => h)
  subst hst
  obtain ⟨hx, hb, hml, hr, hlk, hown, hnm, hts, hK, hA, hE, hsc⟩ := id C
  have hmet := x_met hm.1.1 hm.1.2.1 hlen K l D cI cZ ae al H.size
  have hcb := va_cnB (R := x_room m) (own := x_own m) (index := 9) (host := "HeaderWays") (y := x_y m') (ret := x_ret m') (ws := Cond.code (x_y m') (x_code m') (x_maxL m') (x_ret m') :: x_GW) (rm := x_room m') (mc := x_mc m') (ms := x_ms m') n hts (x_goodGW hm.1.2.2.2.1) rfl rfl rfl (by rw [ho, hy]; exact hE.2.2.2.2.1) (hts _ hm.1.2.2.1) hm.1.2.2.2.2 hR
  rw [hm.2.2.2] at hmet hcb
  exact va_runIN (As := As.map (x_cv (x_ad al ae))) (rest := rest.map (x_cv (x_ad al ae))) (b := x_ad al ae b) (cc := x_code m) (nL := x_maxL m) ⟨hx, hb, hml, hown, hts⟩ hmet ⟨hcb, hm.2.2.1, hts _ hm.2.1⟩ ⟨x_blind, x_pre C R _⟩ rfl (by rw [List.length_map]; exact hn) hlx.1 (by simp [x_cv]) (lv_room (by rw [x_cat_cv]; exact hw)) hd hc
theorem x_mathMax {scr : Option (Nat × (Nat → Int32))} {m : x_Mth} {u : Nat × Nat} {pc : Nat} {ls : List (Nat × Value)} {st : List Value} {M : x_M} {Q : Option Value → x_M → Prop} {idx : Nat} {x y : Int32} (hd : decode (x_code m) pc = .ok (.invokestatic idx, 3)) (hl : Cond.methodLink (x_own m) idx Lib.Math.max.name ∈ x_GW) (hs : Cond.static Lib.Math.max.name ∈ x_GW) (hi : Cond.initialized "java/lang/Math" ∈ x_GW) (hc : Cond.code Lib.Math.max.name Lib.Math.max.code 2 (some .int) ∈ x_GW) (hf : 1 ≤ x_fr m) (hw : x_cat st + 13 ≤ x_lo m)
    (K : X scr m u (pc + 3) ls (.int (if x < y then y else x) :: st) M Q) : X scr m u pc ls (.int y :: .int x :: st) M Q := by
  intro p l e s mi args below meth c D cI cZ A ae al H locs lx Z C R hlx hret h1 h2
  obtain ⟨hx, hb, hml, hr, hlk, hown, hnm, hts, hK, hA, hE, hsc⟩ := id C
  exact va_mmax hx hb (by rw [hml]; exact hlx.1.symm) hown (hts _ hl) (hts _ hs) (hts _ hi) (hts _ hc) hf (by rw [x_cat_cv]; exact hw) h1 h2 hd (K p l e s mi args below meth c D cI cZ A ae al H locs lx Z C R hlx hret h1 h2)
theorem x_mathMin {scr : Option (Nat × (Nat → Int32))} {m : x_Mth} {u : Nat × Nat} {pc : Nat} {ls : List (Nat × Value)} {st : List Value} {M : x_M} {Q : Option Value → x_M → Prop} {idx : Nat} {x y : Int32} (hd : decode (x_code m) pc = .ok (.invokestatic idx, 3)) (hl : Cond.methodLink (x_own m) idx Lib.Math.min.name ∈ x_GW) (hs : Cond.static Lib.Math.min.name ∈ x_GW) (hi : Cond.initialized "java/lang/Math" ∈ x_GW) (hc : Cond.code Lib.Math.min.name Lib.Math.min.code 2 (some .int) ∈ x_GW) (hf : 1 ≤ x_fr m) (hw : x_cat st + 13 ≤ x_lo m)
    (K : X scr m u (pc + 3) ls (.int (if y < x then y else x) :: st) M Q) : X scr m u pc ls (.int y :: .int x :: st) M Q := by
  intro p l e s mi args below meth c D cI cZ A ae al H locs lx Z C R hlx hret h1 h2
  obtain ⟨hx, hb, hml, hr, hlk, hown, hnm, hts, hK, hA, hE, hsc⟩ := id C
  exact va_mmin hx hb (by rw [hml]; exact hlx.1.symm) hown (hts _ hl) (hts _ hs) (hts _ hi) (hts _ hc) hf (by rw [x_cat_cv]; exact hw) h1 h2 hd (K p l e s mi args below meth c D cI cZ A ae al H locs lx Z C R hlx hret h1 h2)
/-- a text's reference is pushed -/
theorem x_ldcS {scr : Option (Nat × (Nat → Int32))} {m : x_Mth} {u : Nat × Nat} {pc : Nat} {ls : List (Nat × Value)} {st : List Value} {M : x_M} {Q : Option Value → x_M → Prop} (idx k : Nat) (ho : x_own m = RX8) (hi : (idx = 68 ∧ k = 1000000) ∨ (idx = 76 ∧ k = 1000001)) (hd : decode (x_code m) pc = .ok (.ldc idx, 2)) (K : X scr m u (pc + 2) ls (.ref k :: st) M Q) : X scr m u pc ls st M Q := by
  intro p l e s mi args below meth c D cI cZ A ae al H locs lx Z C R hlx hret h1 h2
  obtain ⟨hx, hb, hml, hr, hlk, hown, hnm, hts, hK, hA, hE, hsc⟩ := id C
  have kk := K p l e s mi args below meth c D cI cZ A ae al H locs lx Z C R hlx hret h1 h2
  rw [ho] at hown
  rcases hi with ⟨rfl, rfl⟩ | ⟨rfl, rfl⟩
  · exact va_ldcS hx hb hown hE.1 hd kk
  · exact va_ldcS hx hb hown hE.2.1 hd kk
theorem x_ad_hi {al ae : Nat → Nat} {k : Nat} (h : 1000000 ≤ k) : x_ad al ae k = ae k := by simp [x_ad, show ¬ k < 1000000 by omega]
/-- a text's bytes -/
theorem x_strV {scr : Option (Nat × (Nat → Int32))} {m : x_Mth} {u : Nat × Nat} {pc : Nat} {ls : List (Nat × Value)} {st : List Value} {M : x_M} {Q : Option Value → x_M → Prop} {idx : Nat} (i : Nat) (hi : i < 2) (hd : decode (x_code m) pc = .ok (.getfield idx, 3)) (hl : Cond.fieldLink (x_own m) idx "java/lang/String" "value" "[B" ∈ x_GW) (K : X scr m u (pc + 3) ls (.ref (1000010 + i) :: st) M Q) : X scr m u pc ls (.ref (1000000 + i) :: st) M Q := by
  intro p l e s mi args below meth c D cI cZ A ae al H locs lx Z C R hlx hret h1 h2
  obtain ⟨hx, hb, hml, hr, hlk, hown, hnm, hts, hK, hA, hE, hsc⟩ := id C
  have kk := K p l e s mi args below meth c D cI cZ A ae al H locs lx Z C R hlx hret h1 h2
  have e1 : x_ad al ae (1000000 + i) = ae (1000000 + i) := x_ad_hi (by omega)
  have e2 : x_ad al ae (1000010 + i) = ae (1000010 + i) := x_ad_hi (by omega)
  simp only [List.map_cons, x_cv, e2] at kk
  simp only [List.map_cons, x_cv, e1]
  exact vk_getf hx hb (hE.2.2.1.1 i hi).2.2.1 R.2.2.1 hown (hts _ hl) (fun x h => h) hd kk
theorem x_strC {scr : Option (Nat × (Nat → Int32))} {m : x_Mth} {u : Nat × Nat} {pc : Nat} {ls : List (Nat × Value)} {st : List Value} {M : x_M} {Q : Option Value → x_M → Prop} {idx : Nat} (i : Nat) (hi : i < 2) (hd : decode (x_code m) pc = .ok (.getfield idx, 3)) (hl : Cond.fieldLink (x_own m) idx "java/lang/String" "coder" "B" ∈ x_GW) (K : X scr m u (pc + 3) ls (.int 0 :: st) M Q) : X scr m u pc ls (.ref (1000000 + i) :: st) M Q := by
  intro p l e s mi args below meth c D cI cZ A ae al H locs lx Z C R hlx hret h1 h2
  obtain ⟨hx, hb, hml, hr, hlk, hown, hnm, hts, hK, hA, hE, hsc⟩ := id C
  have e1 : x_ad al ae (1000000 + i) = ae (1000000 + i) := x_ad_hi (by omega)
  simp only [List.map_cons, x_cv, e1]
  exact vk_getf hx hb (hE.2.2.1.1 i hi).2.1 R.2.2.1 hown (hts _ hl) (fun x h => h) hd (K p l e s mi args below meth c D cI cZ A ae al H locs lx Z C R hlx hret h1 h2)
theorem x_strL {scr : Option (Nat × (Nat → Int32))} {m : x_Mth} {u : Nat × Nat} {pc : Nat} {ls : List (Nat × Value)} {st : List Value} {M : x_M} {Q : Option Value → x_M → Prop} (i : Nat) (hi : i < 2) (hd : decode (x_code m) pc = .ok (.arraylength, 1)) (K : X scr m u (pc + 1) ls (.int (Int32.ofNat (([5, 4] : List Nat).getD i 0)) :: st) M Q) : X scr m u pc ls (.ref (1000010 + i) :: st) M Q := by
  intro p l e s mi args below meth c D cI cZ A ae al H locs lx Z C R hlx hret h1 h2
  obtain ⟨hx, hb, hml, hr, hlk, hown, hnm, hts, hK, hA, hE, hsc⟩ := id C
  have e1 : x_ad al ae (1000010 + i) = ae (1000010 + i) := x_ad_hi (by omega)
  simp only [List.map_cons, x_cv, e1]
  exact va_tlen hx hb (hE.2.2.1.1 i hi).2.2.2 R.2.2.1 rfl hd (K p l e s mi args below meth c D cI cZ A ae al H locs lx Z C R hlx hret h1 h2)
theorem x_strB {scr : Option (Nat × (Nat → Int32))} {m : x_Mth} {u : Nat × Nat} {pc : Nat} {ls : List (Nat × Value)} {st : List Value} {M : x_M} {Q : Option Value → x_M → Prop} (i : Nat) {j : Int32} (hi : i < 2) (hj : vp_in j (([5, 4] : List Nat).getD i 0)) (hd : decode (x_code m) pc = .ok (.baload, 1)) (K : X scr m u (pc + 1) ls (.int ((([[110, 111, 100, 101, 115], [108, 105, 110, 107]] : List (List Int32)).getD i []).getD j.toNatClampNeg 0) :: st) M Q) : X scr m u pc ls (.int j :: .ref (1000010 + i) :: st) M Q := by
  intro p l e s mi args below meth c D cI cZ A ae al H locs lx Z C R hlx hret h1 h2
  obtain ⟨hx, hb, hml, hr, hlk, hown, hnm, hts, hK, hA, hE, hsc⟩ := id C
  have e1 : x_ad al ae (1000010 + i) = ae (1000010 + i) := x_ad_hi (by omega)
  simp only [List.map_cons, x_cv, e1]
  exact va_tb hx hb (hE.2.2.1.1 i hi).2.2.2 R.2.2.1 hj rfl hd (K p l e s mi args below meth c D cI cZ A ae al H locs lx Z C R hlx hret h1 h2)
theorem x_compact {scr : Option (Nat × (Nat → Int32))} {m : x_Mth} {u : Nat × Nat} {pc : Nat} {ls : List (Nat × Value)} {st : List Value} {M : x_M} {Q : Option Value → x_M → Prop} {idx : Nat} (hd : decode (x_code m) pc = .ok (.getstatic idx, 3)) (hl : Cond.fieldLink (x_own m) idx "java/lang/String" "COMPACT_STRINGS" "Z" ∈ x_GW) (K : X scr m u (pc + 3) ls (.int 1 :: st) M Q) : X scr m u pc ls st M Q := by
  intro p l e s mi args below meth c D cI cZ A ae al H locs lx Z C R hlx hret h1 h2
  obtain ⟨hx, hb, hml, hr, hlk, hown, hnm, hts, hK, hA, hE, hsc⟩ := id C
  exact va_gets hx hb hE.2.2.2.1 R.2.2.1 hown (hts _ hl) (fun x h => h) hd (K p l e s mi args below meth c D cI cZ A ae al H locs lx Z C R hlx hret h1 h2)
theorem x_formatter {scr : Option (Nat × (Nat → Int32))} {m : x_Mth} {u : Nat × Nat} {pc : Nat} {ls : List (Nat × Value)} {st : List Value} {M : x_M} {Q : Option Value → x_M → Prop} {idx : Nat} (hd : decode (x_code m) pc = .ok (.getstatic idx, 3)) (hl : Cond.fieldLink (x_own m) idx "jdk/internal/util/Preconditions" "SIOOBE_FORMATTER" "Ljava/util/function/BiFunction;" ∈ x_GW) (K : ∀ v, (v = .null ∨ v = .ref 1000030) → X scr m u (pc + 3) ls (v :: st) M Q) : X scr m u pc ls st M Q := by
  intro p l e s mi args below meth c D cI cZ A ae al H locs lx Z C R hlx hret h1 h2
  obtain ⟨hx, hb, hml, hr, hlk, hown, hnm, hts, hK, hA, hE, hsc⟩ := id C
  rcases hE.2.2.2.2.2 with hz | hz
  · exact va_gets hx hb hz R.2.2.1 hown (hts _ hl) (fun x h => h) hd (K .null (Or.inl rfl) p l e s mi args below meth c D cI cZ A ae al H locs lx Z C R hlx hret h1 h2)
  · exact va_gets hx hb hz R.2.2.1 hown (hts _ hl) (fun x h => h) hd (K (.ref 1000030) (Or.inr rfl) p l e s mi args below meth c D cI cZ A ae al H locs lx Z C R hlx hret h1 h2)
/-- a text's own methods -/
theorem x_callT {scr : Option (Nat × (Nat → Int32))} {m : x_Mth} {u : Nat × Nat} {pc : Nat} {ls : List (Nat × Value)} {M : x_M} {Q : Option Value → x_M → Prop} {idx : Nat} (m' : x_Mth) (As rest : List Value) (i n : Nat) (st : List Value) (hi : i < 2) (hst : st = As.reverse ++ .ref (1000000 + i) :: rest) (hd : decode (x_code m) pc = .ok (.invokevirtual idx, 3)) (hl : Cond.methodLink (x_own m) idx (x_y m') ∈ x_GW) (hm : x_MV m' n) (hn : As.length = n)
    (hR : x_fr m' + 1 ≤ x_fr m ∧ 8 + (x_maxL m' + 11) + x_lo m' ≤ x_lo m) (hc : u.1 + x_mc m' ≤ x_mc m ∧ u.2 + x_ms m' ≤ x_ms m) (hw : x_cat rest ≤ 8) (hcl : (x_y m').cls = "java/lang/String") (hlen : (lg_sl (.ref (1000000 + i) :: As)).length ≤ x_maxL m')
    (hrk : x_mc m' = 0 ∨ (rest.all (x_rlt M.1.length) = true ∧ (ls.map (·.2)).all (x_rlt M.1.length) = true))
    (K : X none m' (0, 0) 0 (lv_args 0 (.ref (1000000 + i) :: As)) [] M (fun r M' => X scr m (u.1 + x_mc m', u.2 + x_ms m') (pc + 3) ls (r.toList ++ rest) M' Q)) : X scr m u pc ls st M Q := by
  refine x_callK (Ar := .ref (1000000 + i) :: As) (rest := rest) hrk hc (fun p l e s mi args below meth c D cI cZ A ae al H locs lx C R hlx => ?_) (fun r M' h => h)
  subst hst
  obtain ⟨hx, hb, hml, hr, hlk, hown, hnm, hts, hK, hA, hE, hsc⟩ := id C
  have hmet := x_met hm.1.1 hm.1.2.1 hlen K l D cI cZ ae al H.size
  have cw : CallW (x_room m) s args (x_own m) (x_y m').cls idx (x_y m') (x_code m') (x_maxL m') (x_ret m') (Cond.code (x_y m') (x_code m') (x_maxL m') (x_ret m') :: x_GW) (x_room m') (x_mc m') (x_ms m') n := ⟨x_callB hm.1 hts hl hR, hts _ hm.2.1, hts _ hm.2.2⟩
  have e1 : x_ad al ae (1000000 + i) = ae (1000000 + i) := x_ad_hi (by omega)
  have hrv : ∃ cell : Cell, H[x_ad al ae (1000000 + i)]? = some cell ∧ cell.vm.isStatics = false ∧ s.vm.findClass (x_y m').cls = some cell.cls := by
    rw [hcl, e1]
    exact vk_recv (i := i) (adK := fun i => ae (1000000 + i)) hE.2.2.1 hi R.2.2.1
  exact va_runV (As := As.map (x_cv (x_ad al ae))) (rest := rest.map (x_cv (x_ad al ae))) (b := x_ad al ae (1000000 + i)) (cc := x_code m) (nL := x_maxL m) ⟨hx, hb, hml, hown, hts⟩ hmet cw ⟨x_blind, hrv, x_pre C R _⟩ rfl (by rw [List.length_map]; exact hn) hlx.1 (by simp [x_cv]) (lv_room (by rw [x_cat_cv]; exact hw)) hd hc
/-- the script -/
theorem x_sld {L : Nat} {xs : Nat → Int32} {m : x_Mth} {u : Nat × Nat} {pc : Nat} {ls : List (Nat × Value)} {st : List Value} {M : x_M} {Q : Option Value → x_M → Prop} {i : Int32} (hd : decode (x_code m) pc = .ok (.iaload, 1)) (hin : vp_in i L) (K : X (some (L, xs)) m u (pc + 1) ls (.int (xs i.toNatClampNeg) :: st) M Q) : X (some (L, xs)) m u pc ls (.int i :: .ref 1000020 :: st) M Q := by
  intro p l e s mi args below meth c D cI cZ A ae al H locs lx Z C R hlx hret h1 h2
  obtain ⟨hx, hb, hml, hr, hlk, hown, hnm, hts, hK, hA, hE, hsc⟩ := id C
  obtain ⟨hX, hbl, hbA⟩ := hsc L xs rfl
  have e1 : x_ad al ae 1000020 = ae 1000020 := x_ad_hi (by omega)
  simp only [List.map_cons, x_cv, e1]
  exact va_sld hx hb hX hbl hbA R.2.2.1 hin hd (K p l e s mi args below meth c D cI cZ A ae al H locs lx Z C R hlx hret h1 h2)
theorem x_slen {L : Nat} {xs : Nat → Int32} {m : x_Mth} {u : Nat × Nat} {pc : Nat} {ls : List (Nat × Value)} {st : List Value} {M : x_M} {Q : Option Value → x_M → Prop} (hd : decode (x_code m) pc = .ok (.arraylength, 1)) (K : X (some (L, xs)) m u (pc + 1) ls (.int (Int32.ofNat L) :: st) M Q) : X (some (L, xs)) m u pc ls (.ref 1000020 :: st) M Q := by
  intro p l e s mi args below meth c D cI cZ A ae al H locs lx Z C R hlx hret h1 h2
  obtain ⟨hx, hb, hml, hr, hlk, hown, hnm, hts, hK, hA, hE, hsc⟩ := id C
  obtain ⟨hX, hbl, hbA⟩ := hsc L xs rfl
  have e1 : x_ad al ae 1000020 = ae 1000020 := x_ad_hi (by omega)
  simp only [List.map_cons, x_cv, e1]
  exact va_slen hx hb hX hbl hbA R.2.2.1 hd (K p l e s mi args below meth c D cI cZ A ae al H locs lx Z C R hlx hret h1 h2)
end
