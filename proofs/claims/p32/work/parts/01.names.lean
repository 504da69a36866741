-- ===== PART A: goes FIRST, ahead of the names: the tables' words, and 'selects' of the private methods out of them =====
/-- a private method of a class that the tables say can be made, by its rows of tables_1 -/
def lw_okq (q : MethodName × Nat) : Prop := (q.1.cls ≠ "java/lang/invoke/MethodHandle" ∧ q.1.cls ≠ "java/lang/invoke/VarHandle") ∧ Cond.instantiable q.1.cls q.2 ∈ tables_1 ∧ Cond.privateMethod q.1 ∈ tables_1 ∧ Cond.instanceMethod q.1 ∈ tables_1
theorem lw_p0 : lw_okq (⟨"HeaderWays$Text", "readSign", "(C)Z"⟩, 9) := ⟨⟨by decide +kernel, by decide +kernel⟩, List.mem_of_getElem? (i := 89) (by decide +kernel), List.mem_of_getElem? (i := 383) (by decide +kernel), List.mem_of_getElem? (i := 384) (by decide +kernel)⟩
theorem lw_p1 : lw_okq (⟨"HeaderWays$Text", "readToken", "()V"⟩, 9) := ⟨⟨by decide +kernel, by decide +kernel⟩, List.mem_of_getElem? (i := 89) (by decide +kernel), List.mem_of_getElem? (i := 387) (by decide +kernel), List.mem_of_getElem? (i := 388) (by decide +kernel)⟩
theorem lw_p2 : lw_okq (⟨"HeaderWays$Text", "skipBlanks", "(I)I"⟩, 9) := ⟨⟨by decide +kernel, by decide +kernel⟩, List.mem_of_getElem? (i := 89) (by decide +kernel), List.mem_of_getElem? (i := 391) (by decide +kernel), List.mem_of_getElem? (i := 392) (by decide +kernel)⟩
theorem lw_p3 : lw_okq (⟨"HeaderWays$Text", "readClause", "(I)Z"⟩, 9) := ⟨⟨by decide +kernel, by decide +kernel⟩, List.mem_of_getElem? (i := 89) (by decide +kernel), List.mem_of_getElem? (i := 398) (by decide +kernel), List.mem_of_getElem? (i := 399) (by decide +kernel)⟩
theorem lw_p4 : lw_okq (⟨"HeaderWays$Text", "isWord", "(Ljava/lang/String;)Z"⟩, 9) := ⟨⟨by decide +kernel, by decide +kernel⟩, List.mem_of_getElem? (i := 89) (by decide +kernel), List.mem_of_getElem? (i := 403) (by decide +kernel), List.mem_of_getElem? (i := 404) (by decide +kernel)⟩
theorem lw_p5 : lw_okq (⟨"HeaderWays$Text", "readNodes", "(I)Z"⟩, 9) := ⟨⟨by decide +kernel, by decide +kernel⟩, List.mem_of_getElem? (i := 89) (by decide +kernel), List.mem_of_getElem? (i := 455) (by decide +kernel), List.mem_of_getElem? (i := 456) (by decide +kernel)⟩
theorem lw_p6 : lw_okq (⟨"HeaderWays$Text", "readNumber", "(II)I"⟩, 9) := ⟨⟨by decide +kernel, by decide +kernel⟩, List.mem_of_getElem? (i := 89) (by decide +kernel), List.mem_of_getElem? (i := 459) (by decide +kernel), List.mem_of_getElem? (i := 460) (by decide +kernel)⟩
theorem lw_p7 : lw_okq (⟨"HeaderWays$Text", "keep", "(IIIII)V"⟩, 9) := ⟨⟨by decide +kernel, by decide +kernel⟩, List.mem_of_getElem? (i := 89) (by decide +kernel), List.mem_of_getElem? (i := 463) (by decide +kernel), List.mem_of_getElem? (i := 464) (by decide +kernel)⟩
theorem lw_p8 : lw_okq (⟨"HeaderWays$Text", "readLink", "(I)Z"⟩, 9) := ⟨⟨by decide +kernel, by decide +kernel⟩, List.mem_of_getElem? (i := 89) (by decide +kernel), List.mem_of_getElem? (i := 468) (by decide +kernel), List.mem_of_getElem? (i := 469) (by decide +kernel)⟩
theorem lw_p9 : lw_okq (⟨"HeaderWays$Text", "isTooMany", "(J)Z"⟩, 9) := ⟨⟨by decide +kernel, by decide +kernel⟩, List.mem_of_getElem? (i := 89) (by decide +kernel), List.mem_of_getElem? (i := 473) (by decide +kernel), List.mem_of_getElem? (i := 474) (by decide +kernel)⟩
theorem lw_p10 : lw_okq (⟨"HeaderWays", "doClause", "(I)V"⟩, 9) := ⟨⟨by decide +kernel, by decide +kernel⟩, List.mem_of_getElem? (i := 20) (by decide +kernel), List.mem_of_getElem? (i := 483) (by decide +kernel), List.mem_of_getElem? (i := 484) (by decide +kernel)⟩
theorem lw_p11 : lw_okq (⟨"HeaderWays$Net", "addLink", "(II)I"⟩, 9) := ⟨⟨by decide +kernel, by decide +kernel⟩, List.mem_of_getElem? (i := 28) (by decide +kernel), List.mem_of_getElem? (i := 511) (by decide +kernel), List.mem_of_getElem? (i := 512) (by decide +kernel)⟩
theorem lw_p12 : lw_okq (⟨"HeaderWays", "turn", "(I)I"⟩, 9) := ⟨⟨by decide +kernel, by decide +kernel⟩, List.mem_of_getElem? (i := 20) (by decide +kernel), List.mem_of_getElem? (i := 537) (by decide +kernel), List.mem_of_getElem? (i := 538) (by decide +kernel)⟩
theorem lw_p13 : lw_okq (⟨"HeaderWays$Past", "keep", "(IIII)V"⟩, 7) := ⟨⟨by decide +kernel, by decide +kernel⟩, List.mem_of_getElem? (i := 125) (by decide +kernel), List.mem_of_getElem? (i := 545) (by decide +kernel), List.mem_of_getElem? (i := 546) (by decide +kernel)⟩
theorem lw_p14 : lw_okq (⟨"HeaderWays$Routes", "startFrom", "(I)V"⟩, 4) := ⟨⟨by decide +kernel, by decide +kernel⟩, List.mem_of_getElem? (i := 154) (by decide +kernel), List.mem_of_getElem? (i := 604) (by decide +kernel), List.mem_of_getElem? (i := 605) (by decide +kernel)⟩
theorem lw_p15 : lw_okq (⟨"HeaderWays$Routes", "shorten", "(III)V"⟩, 4) := ⟨⟨by decide +kernel, by decide +kernel⟩, List.mem_of_getElem? (i := 154) (by decide +kernel), List.mem_of_getElem? (i := 608) (by decide +kernel), List.mem_of_getElem? (i := 609) (by decide +kernel)⟩
def lw_privs_1 : List (MethodName × Nat) := [(⟨"HeaderWays$Text", "readSign", "(C)Z"⟩, 9), (⟨"HeaderWays$Text", "readToken", "()V"⟩, 9), (⟨"HeaderWays$Text", "skipBlanks", "(I)I"⟩, 9), (⟨"HeaderWays$Text", "readClause", "(I)Z"⟩, 9), (⟨"HeaderWays$Text", "isWord", "(Ljava/lang/String;)Z"⟩, 9), (⟨"HeaderWays$Text", "readNodes", "(I)Z"⟩, 9), (⟨"HeaderWays$Text", "readNumber", "(II)I"⟩, 9), (⟨"HeaderWays$Text", "keep", "(IIIII)V"⟩, 9), (⟨"HeaderWays$Text", "readLink", "(I)Z"⟩, 9), (⟨"HeaderWays$Text", "isTooMany", "(J)Z"⟩, 9), (⟨"HeaderWays", "doClause", "(I)V"⟩, 9), (⟨"HeaderWays$Net", "addLink", "(II)I"⟩, 9), (⟨"HeaderWays", "turn", "(I)I"⟩, 9), (⟨"HeaderWays$Past", "keep", "(IIII)V"⟩, 7), (⟨"HeaderWays$Routes", "startFrom", "(I)V"⟩, 4), (⟨"HeaderWays$Routes", "shorten", "(III)V"⟩, 4)]
theorem lw_r1 : ∀ q ∈ lw_privs_1, lw_okq q := List.forall_mem_cons.mpr ⟨lw_p0, List.forall_mem_cons.mpr ⟨lw_p1, List.forall_mem_cons.mpr ⟨lw_p2, List.forall_mem_cons.mpr ⟨lw_p3, List.forall_mem_cons.mpr ⟨lw_p4, List.forall_mem_cons.mpr ⟨lw_p5, List.forall_mem_cons.mpr ⟨lw_p6, List.forall_mem_cons.mpr ⟨lw_p7, List.forall_mem_cons.mpr ⟨lw_p8, List.forall_mem_cons.mpr ⟨lw_p9, List.forall_mem_cons.mpr ⟨lw_p10, List.forall_mem_cons.mpr ⟨lw_p11, List.forall_mem_cons.mpr ⟨lw_p12, List.forall_mem_cons.mpr ⟨lw_p13, List.forall_mem_cons.mpr ⟨lw_p14, List.forall_mem_cons.mpr ⟨lw_p15, fun _ h => absurd h List.not_mem_nil⟩⟩⟩⟩⟩⟩⟩⟩⟩⟩⟩⟩⟩⟩⟩⟩
theorem lw_p16 : lw_okq (⟨"HeaderWays$Routes", "leadOn", "(IIII)V"⟩, 4) := ⟨⟨by decide +kernel, by decide +kernel⟩, List.mem_of_getElem? (i := 154) (by decide +kernel), List.mem_of_getElem? (i := 612) (by decide +kernel), List.mem_of_getElem? (i := 613) (by decide +kernel)⟩
theorem lw_p17 : lw_okq (⟨"HeaderWays$Rounds", "goesRound", "(III)Z"⟩, 6) := ⟨⟨by decide +kernel, by decide +kernel⟩, List.mem_of_getElem? (i := 173) (by decide +kernel), List.mem_of_getElem? (i := 624) (by decide +kernel), List.mem_of_getElem? (i := 625) (by decide +kernel)⟩
theorem lw_p18 : lw_okq (⟨"HeaderWays$Rounds", "firstToLearn", "(II)I"⟩, 6) := ⟨⟨by decide +kernel, by decide +kernel⟩, List.mem_of_getElem? (i := 173) (by decide +kernel), List.mem_of_getElem? (i := 655) (by decide +kernel), List.mem_of_getElem? (i := 656) (by decide +kernel)⟩
theorem lw_p19 : lw_okq (⟨"HeaderWays$Briefs", "shorten", "(IZ)Z"⟩, 10) := ⟨⟨by decide +kernel, by decide +kernel⟩, List.mem_of_getElem? (i := 246) (by decide +kernel), List.mem_of_getElem? (i := 708) (by decide +kernel), List.mem_of_getElem? (i := 709) (by decide +kernel)⟩
theorem lw_p20 : lw_okq (⟨"HeaderWays$Briefs", "followedFrom", "(I)I"⟩, 10) := ⟨⟨by decide +kernel, by decide +kernel⟩, List.mem_of_getElem? (i := 246) (by decide +kernel), List.mem_of_getElem? (i := 713) (by decide +kernel), List.mem_of_getElem? (i := 714) (by decide +kernel)⟩
theorem lw_p21 : lw_okq (⟨"HeaderWays$Briefs", "linkIn", "(III)I"⟩, 10) := ⟨⟨by decide +kernel, by decide +kernel⟩, List.mem_of_getElem? (i := 246) (by decide +kernel), List.mem_of_getElem? (i := 718) (by decide +kernel), List.mem_of_getElem? (i := 719) (by decide +kernel)⟩
theorem lw_p22 : lw_okq (⟨"HeaderWays$Briefs", "chooseFirst", "(I)V"⟩, 10) := ⟨⟨by decide +kernel, by decide +kernel⟩, List.mem_of_getElem? (i := 246) (by decide +kernel), List.mem_of_getElem? (i := 723) (by decide +kernel), List.mem_of_getElem? (i := 724) (by decide +kernel)⟩
theorem lw_p23 : lw_okq (⟨"HeaderWays$Briefs", "lowestKind", "(II)I"⟩, 10) := ⟨⟨by decide +kernel, by decide +kernel⟩, List.mem_of_getElem? (i := 246) (by decide +kernel), List.mem_of_getElem? (i := 727) (by decide +kernel), List.mem_of_getElem? (i := 728) (by decide +kernel)⟩
theorem lw_p24 : lw_okq (⟨"HeaderWays$Briefs", "writeFound", "()V"⟩, 10) := ⟨⟨by decide +kernel, by decide +kernel⟩, List.mem_of_getElem? (i := 246) (by decide +kernel), List.mem_of_getElem? (i := 731) (by decide +kernel), List.mem_of_getElem? (i := 732) (by decide +kernel)⟩
theorem lw_p25 : lw_okq (⟨"HeaderWays$Letters", "takeOffReached", "(I)V"⟩, 11) := ⟨⟨by decide +kernel, by decide +kernel⟩, List.mem_of_getElem? (i := 289) (by decide +kernel), List.mem_of_getElem? (i := 867) (by decide +kernel), List.mem_of_getElem? (i := 868) (by decide +kernel)⟩
theorem lw_p26 : lw_okq (⟨"HeaderWays$Letters", "linkAhead", "(I)I"⟩, 11) := ⟨⟨by decide +kernel, by decide +kernel⟩, List.mem_of_getElem? (i := 289) (by decide +kernel), List.mem_of_getElem? (i := 880) (by decide +kernel), List.mem_of_getElem? (i := 881) (by decide +kernel)⟩
theorem lw_p27 : lw_okq (⟨"HeaderWays$Letters", "crossLink", "(II)I"⟩, 11) := ⟨⟨by decide +kernel, by decide +kernel⟩, List.mem_of_getElem? (i := 289) (by decide +kernel), List.mem_of_getElem? (i := 903) (by decide +kernel), List.mem_of_getElem? (i := 904) (by decide +kernel)⟩
theorem lw_p28 : lw_okq (⟨"HeaderWays$Letters", "mend", "(II)Z"⟩, 11) := ⟨⟨by decide +kernel, by decide +kernel⟩, List.mem_of_getElem? (i := 289) (by decide +kernel), List.mem_of_getElem? (i := 907) (by decide +kernel), List.mem_of_getElem? (i := 908) (by decide +kernel)⟩
def lw_privs_2 : List (MethodName × Nat) := [(⟨"HeaderWays$Routes", "leadOn", "(IIII)V"⟩, 4), (⟨"HeaderWays$Rounds", "goesRound", "(III)Z"⟩, 6), (⟨"HeaderWays$Rounds", "firstToLearn", "(II)I"⟩, 6), (⟨"HeaderWays$Briefs", "shorten", "(IZ)Z"⟩, 10), (⟨"HeaderWays$Briefs", "followedFrom", "(I)I"⟩, 10), (⟨"HeaderWays$Briefs", "linkIn", "(III)I"⟩, 10), (⟨"HeaderWays$Briefs", "chooseFirst", "(I)V"⟩, 10), (⟨"HeaderWays$Briefs", "lowestKind", "(II)I"⟩, 10), (⟨"HeaderWays$Briefs", "writeFound", "()V"⟩, 10), (⟨"HeaderWays$Letters", "takeOffReached", "(I)V"⟩, 11), (⟨"HeaderWays$Letters", "linkAhead", "(I)I"⟩, 11), (⟨"HeaderWays$Letters", "crossLink", "(II)I"⟩, 11), (⟨"HeaderWays$Letters", "mend", "(II)Z"⟩, 11)]
theorem lw_r2 : ∀ q ∈ lw_privs_2, lw_okq q := List.forall_mem_cons.mpr ⟨lw_p16, List.forall_mem_cons.mpr ⟨lw_p17, List.forall_mem_cons.mpr ⟨lw_p18, List.forall_mem_cons.mpr ⟨lw_p19, List.forall_mem_cons.mpr ⟨lw_p20, List.forall_mem_cons.mpr ⟨lw_p21, List.forall_mem_cons.mpr ⟨lw_p22, List.forall_mem_cons.mpr ⟨lw_p23, List.forall_mem_cons.mpr ⟨lw_p24, List.forall_mem_cons.mpr ⟨lw_p25, List.forall_mem_cons.mpr ⟨lw_p26, List.forall_mem_cons.mpr ⟨lw_p27, List.forall_mem_cons.mpr ⟨lw_p28, fun _ h => absurd h List.not_mem_nil⟩⟩⟩⟩⟩⟩⟩⟩⟩⟩⟩⟩⟩
def lw_privs : List (MethodName × Nat) := lw_privs_1 ++ (lw_privs_2)
def lw_tbl : List Cond := k2_sels lw_privs ++ tables_1
theorem lw_privs_ok : ∀ q ∈ lw_privs, lw_okq q := by
  show ∀ q ∈ lw_privs_1 ++ (lw_privs_2), lw_okq q
  exact List.forall_mem_append.mpr ⟨lw_r1, lw_r2⟩

theorem x_in0 {big : List Cond} {w : Cond} (i : Nat) (h : big[i]? = some w) (g : goodWord w = true) : w ∈ big.filter goodWord := List.mem_filter.mpr ⟨List.mem_of_getElem? h, g⟩
/-- the words that every method here is said over -/
def x_GW : List Cond := lw_tbl.filter goodWord
def RX0 : String := "HeaderWays$Briefs"
def TX0 : u_T := fun k => match k with
  | 0 => ("HeaderWays$Briefs", "net", "LHeaderWays$Net;", true)
  | 1 => ("HeaderWays$Briefs", "routes", "LHeaderWays$Routes;", true)
  | 2 => ("HeaderWays$Briefs", "way", "LHeaderWays$Row;", true)
  | 3 => ("HeaderWays$Briefs", "alongCost", "[I", true)
  | 4 => ("HeaderWays$Briefs", "alongDelay", "[I", true)
  | 5 => ("HeaderWays$Briefs", "linksOn", "[I", true)
  | 6 => ("HeaderWays$Briefs", "fewest", "[I", true)
  | 7 => ("HeaderWays$Briefs", "goals", "[I", true)
  | 8 => ("HeaderWays$Briefs", "kinds", "[I", true)
  | _ => ("HeaderWays$Briefs", "found", "LHeaderWays$Segments;", true)
def tyX0 : Nat → FieldType := fun k => match k with
  | 0 => .object "HeaderWays$Net"
  | 1 => .object "HeaderWays$Routes"
  | 2 => .object "HeaderWays$Row"
  | 3 => .array .int
  | 4 => .array .int
  | 5 => .array .int
  | 6 => .array .int
  | 7 => .array .int
  | 8 => .array .int
  | _ => .object "HeaderWays$Segments"
theorem nmX0 : ∀ a, a < 10 → ∀ b, b < 10 → a ≠ b → (TX0 a).2.1 ≠ (TX0 b).2.1 := by decide +kernel
theorem tyX0_ok : ∀ k, k < 10 → parseFieldDescriptor (TX0 k).2.2.1 = some (tyX0 k) := by decide +kernel
def RX1 : String := "HeaderWays$Letters"
def TX1 : u_T := fun k => match k with
  | 0 => ("HeaderWays$Letters", "net", "LHeaderWays$Net;", true)
  | 1 => ("HeaderWays$Letters", "routes", "LHeaderWays$Routes;", true)
  | 2 => ("HeaderWays$Letters", "briefs", "LHeaderWays$Briefs;", true)
  | 3 => ("HeaderWays$Letters", "borne", "LHeaderWays$Segments;", true)
  | 4 => ("HeaderWays$Letters", "passed", "LHeaderWays$Row;", true)
  | 5 => ("HeaderWays$Letters", "protection", "I", false)
  | 6 => ("HeaderWays$Letters", "sent", "I", false)
  | 7 => ("HeaderWays$Letters", "there", "I", false)
  | 8 => ("HeaderWays$Letters", "mended", "I", false)
  | 9 => ("HeaderWays$Letters", "lost", "I", false)
  | _ => ("HeaderWays$Letters", "lastMended", "Z", false)
def tyX1 : Nat → FieldType := fun k => match k with
  | 0 => .object "HeaderWays$Net"
  | 1 => .object "HeaderWays$Routes"
  | 2 => .object "HeaderWays$Briefs"
  | 3 => .object "HeaderWays$Segments"
  | 4 => .object "HeaderWays$Row"
  | 5 => .int
  | 6 => .int
  | 7 => .int
  | 8 => .int
  | 9 => .int
  | _ => .boolean
theorem nmX1 : ∀ a, a < 11 → ∀ b, b < 11 → a ≠ b → (TX1 a).2.1 ≠ (TX1 b).2.1 := by decide +kernel
theorem tyX1_ok : ∀ k, k < 11 → parseFieldDescriptor (TX1 k).2.2.1 = some (tyX1 k) := by decide +kernel
def RX2 : String := "HeaderWays$Net"
def TX2 : u_T := fun k => match k with
  | 0 => ("HeaderWays$Net", "nodes", "I", false)
  | 1 => ("HeaderWays$Net", "links", "I", false)
  | 2 => ("HeaderWays$Net", "up", "I", false)
  | 3 => ("HeaderWays$Net", "low", "[I", true)
  | 4 => ("HeaderWays$Net", "high", "[I", true)
  | 5 => ("HeaderWays$Net", "cost", "[I", true)
  | 6 => ("HeaderWays$Net", "delay", "[I", true)
  | 7 => ("HeaderWays$Net", "crossed", "[I", true)
  | _ => ("HeaderWays$Net", "seen", "[I", true)
def tyX2 : Nat → FieldType := fun k => match k with
  | 0 => .int
  | 1 => .int
  | 2 => .int
  | 3 => .array .int
  | 4 => .array .int
  | 5 => .array .int
  | 6 => .array .int
  | 7 => .array .int
  | _ => .array .int
theorem nmX2 : ∀ a, a < 9 → ∀ b, b < 9 → a ≠ b → (TX2 a).2.1 ≠ (TX2 b).2.1 := by decide +kernel
theorem tyX2_ok : ∀ k, k < 9 → parseFieldDescriptor (TX2 k).2.2.1 = some (tyX2 k) := by decide +kernel
def RX3 : String := "HeaderWays$Past"
def TX3 : u_T := fun k => match k with
  | 0 => ("HeaderWays$Past", "net", "LHeaderWays$Net;", true)
  | 1 => ("HeaderWays$Past", "changes", "[I", true)
  | 2 => ("HeaderWays$Past", "places", "[I", true)
  | 3 => ("HeaderWays$Past", "firsts", "[I", true)
  | 4 => ("HeaderWays$Past", "seconds", "[I", true)
  | 5 => ("HeaderWays$Past", "ahead", "I", false)
  | _ => ("HeaderWays$Past", "size", "I", false)
def tyX3 : Nat → FieldType := fun k => match k with
  | 0 => .object "HeaderWays$Net"
  | 1 => .array .int
  | 2 => .array .int
  | 3 => .array .int
  | 4 => .array .int
  | 5 => .int
  | _ => .int
theorem nmX3 : ∀ a, a < 7 → ∀ b, b < 7 → a ≠ b → (TX3 a).2.1 ≠ (TX3 b).2.1 := by decide +kernel
theorem tyX3_ok : ∀ k, k < 7 → parseFieldDescriptor (TX3 k).2.2.1 = some (tyX3 k) := by decide +kernel
def RX4 : String := "HeaderWays$Rounds"
def TX4 : u_T := fun k => match k with
  | 0 => ("HeaderWays$Rounds", "net", "LHeaderWays$Net;", true)
  | 1 => ("HeaderWays$Rounds", "routes", "LHeaderWays$Routes;", true)
  | 2 => ("HeaderWays$Rounds", "aheadSeen", "[I", true)
  | 3 => ("HeaderWays$Rounds", "aheadUp", "[I", true)
  | 4 => ("HeaderWays$Rounds", "closed", "[Z", true)
  | _ => ("HeaderWays$Rounds", "order", "LHeaderWays$Row;", true)
def tyX4 : Nat → FieldType := fun k => match k with
  | 0 => .object "HeaderWays$Net"
  | 1 => .object "HeaderWays$Routes"
  | 2 => .array .int
  | 3 => .array .int
  | 4 => .array .boolean
  | _ => .object "HeaderWays$Row"
theorem nmX4 : ∀ a, a < 6 → ∀ b, b < 6 → a ≠ b → (TX4 a).2.1 ≠ (TX4 b).2.1 := by decide +kernel
theorem tyX4_ok : ∀ k, k < 6 → parseFieldDescriptor (TX4 k).2.2.1 = some (tyX4 k) := by decide +kernel
def RX5 : String := "HeaderWays$Routes"
def TX5 : u_T := fun k => match k with
  | 0 => ("HeaderWays$Routes", "net", "LHeaderWays$Net;", true)
  | 1 => ("HeaderWays$Routes", "sums", "[I", true)
  | 2 => ("HeaderWays$Routes", "nodesAhead", "[I", true)
  | _ => ("HeaderWays$Routes", "linksAhead", "[I", true)
def tyX5 : Nat → FieldType := fun k => match k with
  | 0 => .object "HeaderWays$Net"
  | 1 => .array .int
  | 2 => .array .int
  | _ => .array .int
theorem nmX5 : ∀ a, a < 4 → ∀ b, b < 4 → a ≠ b → (TX5 a).2.1 ≠ (TX5 b).2.1 := by decide +kernel
theorem tyX5_ok : ∀ k, k < 4 → parseFieldDescriptor (TX5 k).2.2.1 = some (tyX5 k) := by decide +kernel
def RX6 : String := "HeaderWays$Row"
def TX6 : u_T := fun k => match k with
  | 0 => ("HeaderWays$Row", "nodes", "[I", true)
  | _ => ("HeaderWays$Row", "length", "I", false)
def tyX6 : Nat → FieldType := fun k => match k with
  | 0 => .array .int
  | _ => .int
theorem nmX6 : ∀ a, a < 2 → ∀ b, b < 2 → a ≠ b → (TX6 a).2.1 ≠ (TX6 b).2.1 := by decide +kernel
theorem tyX6_ok : ∀ k, k < 2 → parseFieldDescriptor (TX6 k).2.2.1 = some (tyX6 k) := by decide +kernel
def RX7 : String := "HeaderWays$Segments"
def TX7 : u_T := fun k => match k with
  | 0 => ("HeaderWays$Segments", "kinds", "[I", true)
  | 1 => ("HeaderWays$Segments", "whats", "[I", true)
  | _ => ("HeaderWays$Segments", "size", "I", false)
def tyX7 : Nat → FieldType := fun k => match k with
  | 0 => .array .int
  | 1 => .array .int
  | _ => .int
theorem nmX7 : ∀ a, a < 3 → ∀ b, b < 3 → a ≠ b → (TX7 a).2.1 ≠ (TX7 b).2.1 := by decide +kernel
theorem tyX7_ok : ∀ k, k < 3 → parseFieldDescriptor (TX7 k).2.2.1 = some (tyX7 k) := by decide +kernel
def RX8 : String := "HeaderWays$Text"
def TX8 : u_T := fun k => match k with
  | 0 => ("HeaderWays$Text", "net", "LHeaderWays$Net;", true)
  | 1 => ("HeaderWays$Text", "letters", "[I", true)
  | 2 => ("HeaderWays$Text", "length", "I", false)
  | 3 => ("HeaderWays$Text", "clauses", "I", false)
  | 4 => ("HeaderWays$Text", "numbers", "[I", true)
  | 5 => ("HeaderWays$Text", "begin", "I", false)
  | 6 => ("HeaderWays$Text", "end", "I", false)
  | 7 => ("HeaderWays$Text", "nodes", "I", false)
  | _ => ("HeaderWays$Text", "pairs", "J", false)
def tyX8 : Nat → FieldType := fun k => match k with
  | 0 => .object "HeaderWays$Net"
  | 1 => .array .int
  | 2 => .int
  | 3 => .int
  | 4 => .array .int
  | 5 => .int
  | 6 => .int
  | 7 => .int
  | _ => .long
theorem nmX8 : ∀ a, a < 9 → ∀ b, b < 9 → a ≠ b → (TX8 a).2.1 ≠ (TX8 b).2.1 := by decide +kernel
theorem tyX8_ok : ∀ k, k < 9 → parseFieldDescriptor (TX8 k).2.2.1 = some (tyX8 k) := by decide +kernel
def RX9 : String := "HeaderWays"
def TX9 : u_T := fun k => match k with
  | 0 => ("HeaderWays", "net", "LHeaderWays$Net;", true)
  | 1 => ("HeaderWays", "text", "LHeaderWays$Text;", true)
  | 2 => ("HeaderWays", "past", "LHeaderWays$Past;", true)
  | 3 => ("HeaderWays", "routes", "LHeaderWays$Routes;", true)
  | 4 => ("HeaderWays", "rounds", "LHeaderWays$Rounds;", true)
  | 5 => ("HeaderWays", "list", "LHeaderWays$Segments;", true)
  | 6 => ("HeaderWays", "traced", "LHeaderWays$Row;", true)
  | 7 => ("HeaderWays", "briefs", "LHeaderWays$Briefs;", true)
  | _ => ("HeaderWays", "letters", "LHeaderWays$Letters;", true)
def tyX9 : Nat → FieldType := fun k => match k with
  | 0 => .object "HeaderWays$Net"
  | 1 => .object "HeaderWays$Text"
  | 2 => .object "HeaderWays$Past"
  | 3 => .object "HeaderWays$Routes"
  | 4 => .object "HeaderWays$Rounds"
  | 5 => .object "HeaderWays$Segments"
  | 6 => .object "HeaderWays$Row"
  | 7 => .object "HeaderWays$Briefs"
  | _ => .object "HeaderWays$Letters"
theorem nmX9 : ∀ a, a < 9 → ∀ b, b < 9 → a ≠ b → (TX9 a).2.1 ≠ (TX9 b).2.1 := by decide +kernel
theorem tyX9_ok : ∀ k, k < 9 → parseFieldDescriptor (TX9 k).2.2.1 = some (tyX9 k) := by decide +kernel
def RJ6 : String := "java/lang/Integer"
def RJ13 : String := "java/lang/Long"
def RJ9 : String := "java/lang/Math"
def RJ0 : String := "java/lang/String"
def RJ1 : String := "java/lang/StringLatin1"
def RJ2 : String := "java/lang/StringUTF16"
def RJ7 : String := "java/util/Arrays"
def RJ3 : String := "jdk/internal/util/Preconditions"
def RL : String := "HeaderWaysLaw"
abbrev vwCl : List vw_C := [(RX0, TX0, 10), (RX1, TX1, 11), (RX2, TX2, 9), (RX3, TX3, 7), (RX4, TX4, 6), (RX5, TX5, 4), (RX6, TX6, 2), (RX7, TX7, 3), (RX8, TX8, 9), (RX9, TX9, 9)]
def x_R : Nat → String := fun k => match k with
  | 0 => RX0
  | 1 => RX1
  | 2 => RX2
  | 3 => RX3
  | 4 => RX4
  | 5 => RX5
  | 6 => RX6
  | 7 => RX7
  | 8 => RX8
  | _ => RX9
def x_T : Nat → u_T := fun k => match k with
  | 0 => TX0
  | 1 => TX1
  | 2 => TX2
  | 3 => TX3
  | 4 => TX4
  | 5 => TX5
  | 6 => TX6
  | 7 => TX7
  | 8 => TX8
  | _ => TX9
def x_ty : Nat → Nat → FieldType := fun k => match k with
  | 0 => tyX0
  | 1 => tyX1
  | 2 => tyX2
  | 3 => tyX3
  | 4 => tyX4
  | 5 => tyX5
  | 6 => tyX6
  | 7 => tyX7
  | 8 => tyX8
  | _ => tyX9
def x_N : Nat → Nat := fun k => match k with
  | 0 => 10
  | 1 => 11
  | 2 => 9
  | 3 => 7
  | 4 => 6
  | 5 => 4
  | 6 => 2
  | 7 => 3
  | 8 => 9
  | _ => 9
theorem x_cases {P : Nat → Prop} (h : ∀ k, k < 10 → P k) : ∀ k, k < 10 → P k := h
theorem x_cl : ∀ k, k < 10 → vwCl[k]? = some (x_R k, x_T k, x_N k) := by
  intro k hk
  rcases (show k = 0 ∨ k = 1 ∨ k = 2 ∨ k = 3 ∨ k = 4 ∨ k = 5 ∨ k = 6 ∨ k = 7 ∨ k = 8 ∨ k = 9 by omega) with rfl | rfl | rfl | rfl | rfl | rfl | rfl | rfl | rfl | rfl <;> rfl
theorem x_N64 : ∀ k, k < 10 → x_N k ≤ 64 := by decide +kernel
theorem x_tyok : ∀ c, c < 10 → ∀ k, k < x_N c → parseFieldDescriptor (x_T c k).2.2.1 = some (x_ty c k) := by decide +kernel
theorem x_nm : ∀ c, c < 10 → ∀ a, a < x_N c → ∀ b, b < x_N c → a ≠ b → (x_T c a).2.1 ≠ (x_T c b).2.1 := by decide +kernel
theorem x_own0 : ∀ c, c < 10 → ∀ k, k < x_N c → (x_T c k).1 = x_R c := by decide +kernel
def x_lp0 : Nat → List Nat := fun k => match k with
  | 0 => [296, 298, 300, 302, 304, 306, 308, 310, 312, 314]
  | 1 => [341, 343, 345, 347, 349, 351, 353, 355, 357, 359, 361]
  | 2 => [97, 99, 101, 103, 105, 107, 109, 111, 113]
  | 3 => [167, 169, 171, 173, 175, 177, 179]
  | 4 => [237, 239, 241, 243, 245, 247]
  | 5 => [192, 194, 196, 198]
  | 6 => [224, 226]
  | 7 => [265, 267, 269]
  | 8 => [134, 136, 138, 140, 142, 144, 146, 148, 150]
  | _ => [373, 375, 377, 379, 381, 383, 385, 387, 389]
theorem x_us0 : ∀ k, k < 10 → lw_tbl[(x_lp0 0).getD k 0]? = some (u_lay RX0 TX0 k) ∧ goodWord (u_lay RX0 TX0 k) = true := by decide +kernel
theorem x_us1 : ∀ k, k < 11 → lw_tbl[(x_lp0 1).getD k 0]? = some (u_lay RX1 TX1 k) ∧ goodWord (u_lay RX1 TX1 k) = true := by decide +kernel
theorem x_us2 : ∀ k, k < 9 → lw_tbl[(x_lp0 2).getD k 0]? = some (u_lay RX2 TX2 k) ∧ goodWord (u_lay RX2 TX2 k) = true := by decide +kernel
theorem x_us3 : ∀ k, k < 7 → lw_tbl[(x_lp0 3).getD k 0]? = some (u_lay RX3 TX3 k) ∧ goodWord (u_lay RX3 TX3 k) = true := by decide +kernel
theorem x_us4 : ∀ k, k < 6 → lw_tbl[(x_lp0 4).getD k 0]? = some (u_lay RX4 TX4 k) ∧ goodWord (u_lay RX4 TX4 k) = true := by decide +kernel
theorem x_us5 : ∀ k, k < 4 → lw_tbl[(x_lp0 5).getD k 0]? = some (u_lay RX5 TX5 k) ∧ goodWord (u_lay RX5 TX5 k) = true := by decide +kernel
theorem x_us6 : ∀ k, k < 2 → lw_tbl[(x_lp0 6).getD k 0]? = some (u_lay RX6 TX6 k) ∧ goodWord (u_lay RX6 TX6 k) = true := by decide +kernel
theorem x_us7 : ∀ k, k < 3 → lw_tbl[(x_lp0 7).getD k 0]? = some (u_lay RX7 TX7 k) ∧ goodWord (u_lay RX7 TX7 k) = true := by decide +kernel
theorem x_us8 : ∀ k, k < 9 → lw_tbl[(x_lp0 8).getD k 0]? = some (u_lay RX8 TX8 k) ∧ goodWord (u_lay RX8 TX8 k) = true := by decide +kernel
theorem x_us9 : ∀ k, k < 9 → lw_tbl[(x_lp0 9).getD k 0]? = some (u_lay RX9 TX9 k) ∧ goodWord (u_lay RX9 TX9 k) = true := by decide +kernel
theorem x_usG {C : String} {U : u_T} {n : Nat} {f : Nat → Nat} (h : ∀ k, k < n → lw_tbl[f k]? = some (u_lay C U k) ∧ goodWord (u_lay C U k) = true) : ∀ w ∈ u_ws C U n, w ∈ x_GW := by
  intro w hw
  obtain ⟨k, hk, rfl⟩ := List.mem_map.mp hw
  exact x_in0 _ (h k (List.mem_range.mp hk)).1 (h k (List.mem_range.mp hk)).2
theorem x_uw : ∀ c, c < 10 → ∀ w ∈ u_ws (x_R c) (x_T c) (x_N c), w ∈ x_GW := by
  intro k hk
  rcases (show k = 0 ∨ k = 1 ∨ k = 2 ∨ k = 3 ∨ k = 4 ∨ k = 5 ∨ k = 6 ∨ k = 7 ∨ k = 8 ∨ k = 9 by omega) with rfl | rfl | rfl | rfl | rfl | rfl | rfl | rfl | rfl | rfl
  · exact x_usG x_us0
  · exact x_usG x_us1
  · exact x_usG x_us2
  · exact x_usG x_us3
  · exact x_usG x_us4
  · exact x_usG x_us5
  · exact x_usG x_us6
  · exact x_usG x_us7
  · exact x_usG x_us8
  · exact x_usG x_us9
theorem x_ins0 : Cond.instantiable RX0 10 ∈ x_GW ∧ Cond.initialized RX0 ∈ x_GW := ⟨x_in0 275 (by decide +kernel) (by decide +kernel), x_in0 39 (by decide +kernel) (by decide +kernel)⟩
theorem x_ins1 : Cond.instantiable RX1 11 ∈ x_GW ∧ Cond.initialized RX1 ∈ x_GW := ⟨x_in0 318 (by decide +kernel) (by decide +kernel), x_in0 40 (by decide +kernel) (by decide +kernel)⟩
theorem x_ins2 : Cond.instantiable RX2 9 ∈ x_GW ∧ Cond.initialized RX2 ∈ x_GW := ⟨x_in0 57 (by decide +kernel) (by decide +kernel), x_in0 31 (by decide +kernel) (by decide +kernel)⟩
theorem x_ins3 : Cond.instantiable RX3 7 ∈ x_GW ∧ Cond.initialized RX3 ∈ x_GW := ⟨x_in0 154 (by decide +kernel) (by decide +kernel), x_in0 33 (by decide +kernel) (by decide +kernel)⟩
theorem x_ins4 : Cond.instantiable RX4 6 ∈ x_GW ∧ Cond.initialized RX4 ∈ x_GW := ⟨x_in0 202 (by decide +kernel) (by decide +kernel), x_in0 35 (by decide +kernel) (by decide +kernel)⟩
theorem x_ins5 : Cond.instantiable RX5 4 ∈ x_GW ∧ Cond.initialized RX5 ∈ x_GW := ⟨x_in0 183 (by decide +kernel) (by decide +kernel), x_in0 34 (by decide +kernel) (by decide +kernel)⟩
theorem x_ins6 : Cond.instantiable RX6 2 ∈ x_GW ∧ Cond.initialized RX6 ∈ x_GW := ⟨x_in0 208 (by decide +kernel) (by decide +kernel), x_in0 36 (by decide +kernel) (by decide +kernel)⟩
theorem x_ins7 : Cond.instantiable RX7 3 ∈ x_GW ∧ Cond.initialized RX7 ∈ x_GW := ⟨x_in0 251 (by decide +kernel) (by decide +kernel), x_in0 38 (by decide +kernel) (by decide +kernel)⟩
theorem x_ins8 : Cond.instantiable RX8 9 ∈ x_GW ∧ Cond.initialized RX8 ∈ x_GW := ⟨x_in0 118 (by decide +kernel) (by decide +kernel), x_in0 32 (by decide +kernel) (by decide +kernel)⟩
theorem x_ins9 : Cond.instantiable RX9 9 ∈ x_GW ∧ Cond.initialized RX9 ∈ x_GW := ⟨x_in0 49 (by decide +kernel) (by decide +kernel), x_in0 30 (by decide +kernel) (by decide +kernel)⟩
theorem x_arrI : Cond.arrayClass .int ∈ x_GW := x_in0 116 (by decide +kernel) (by decide +kernel)
theorem x_arrZ : Cond.arrayClass .boolean ∈ x_GW := x_in0 229 (by decide +kernel) (by decide +kernel)
theorem x_obj : Cond.instanceMethod objectInit ∈ x_GW ∧ Cond.code objectInit ⟨#[0xb1]⟩ 1 none ∈ x_GW := ⟨x_in0 54 (by decide +kernel) (by decide +kernel), x_in0 55 (by decide +kernel) (by decide +kernel)⟩
