/-! ===== blocks ===== -/
theorem bX8_addLetter_0 {I : Nat → Nat → Int32} {L : Nat → Int64} {Q : Option Value → (Nat → Nat → Int32) → (Nat → Int64) → Prop} {v1 : Int32}  (K1 : ((200 : Int32) ≤ (I 514 0)) → XS mX8_addLetter 30 [] [] I L Q) (K2 : (¬ (200 : Int32) ≤ (I 514 0)) → XS mX8_addLetter 10 [(0, .ref 8), (1, .int v1)] [] I L Q) : XS mX8_addLetter 0 [(0, .ref 8), (1, .int v1)] [] I L Q := by
  refine x_aload_n 0 dX8_addLetter_0 rfl rfl ?_
  refine xs_geti 514 dX8_addLetter_1 fl_X8_15 sh_8 rfl rfl ?_
  refine x_sipush (v := (200 : Int32)) dX8_addLetter_4 (by decide) ?_
  exact x_icmp_ge 30 dX8_addLetter_7 (by decide) (fun h => x_sub [] rfl (K1 h)) (fun h => K2 h)
theorem bX8_addLetter_10 {I : Nat → Nat → Int32} {L : Nat → Int64} {Q : Option Value → (Nat → Nat → Int32) → (Nat → Int64) → Prop} {v1 : Int32} (hb1 : vp_in (I 514 0) 200) (K : XS mX8_addLetter 30 [] [] (x_up (x_up I 576 ((I 514 0).toNatClampNeg) v1) 514 0 (((x_up I 576 ((I 514 0).toNatClampNeg) v1) 514 0) + (1 : Int32))) L Q) : XS mX8_addLetter 10 [(0, .ref 8), (1, .int v1)] [] I L Q := by
  refine x_aload_n 0 dX8_addLetter_10 rfl rfl ?_
  refine xs_getr dX8_addLetter_11 fl_X8_9 sh_8 rfl rf_513 ?_
  refine x_aload_n 0 dX8_addLetter_14 rfl rfl ?_
  refine xs_geti 514 dX8_addLetter_15 fl_X8_15 sh_8 rfl rfl ?_
  refine x_iload_n 1 dX8_addLetter_18 rfl rfl ?_
  refine xs_iast 576 ((I 514 0).toNatClampNeg) dX8_addLetter_19 sh_9 rfl rfl hb1 ?_
  refine x_aload_n 0 dX8_addLetter_20 rfl rfl ?_
  refine x_dup dX8_addLetter_21 rfl ?_
  refine xs_geti 514 dX8_addLetter_22 fl_X8_15 sh_8 rfl rfl ?_
  refine x_iconst (v := (1 : Int32)) dX8_addLetter_25 (by decide) ?_
  refine x_iadd dX8_addLetter_26 ?_
  refine xs_puti 514 dX8_addLetter_27 fl_X8_15 sh_8 rfl rfl rfl ?_
  exact x_sub [] rfl (K)
theorem bX8_addLetter_30 {I : Nat → Nat → Int32} {L : Nat → Int64} {Q : Option Value → (Nat → Nat → Int32) → (Nat → Int64) → Prop}   (K : Q none I L) : XS mX8_addLetter 30 [] [] I L Q := by
  exact xs_end dX8_addLetter_30 rfl K
theorem bX8_tellsNodes_0 {I : Nat → Nat → Int32} {L : Nat → Int64} {Q : Option Value → (Nat → Nat → Int32) → (Nat → Int64) → Prop} {v1 : Int32}  (K : XS mX8_told 0 [(0, .ref 8), (1, .int v1), (2, .int (1 : Int32))] [] I L (fun r I' L' => XS mX8_tellsNodes 6 [] (r.toList ++ []) I' L' Q)) : XS mX8_tellsNodes 0 [(0, .ref 8), (1, .int v1)] [] I L Q := by
  refine x_aload_n 0 dX8_tellsNodes_0 rfl rfl ?_
  refine x_iload_n 1 dX8_tellsNodes_1 rfl rfl ?_
  refine x_iconst (v := (1 : Int32)) dX8_tellsNodes_2 (by decide) ?_
  refine x_sub [] rfl ?_
  exact xs_callV mX8_told [.int v1, .int (1 : Int32)] [] 8 8 2 _ rfl dX8_tellsNodes_3 ml_X8_42 qX8_told rfl ⟨Nat.le_of_ble_eq_true rfl, Nat.le_of_ble_eq_true rfl⟩ ⟨rfl, rfl⟩ (Nat.le_of_ble_eq_true rfl) sh_8 (by decide) rfl (Nat.le_of_ble_eq_true rfl) (K)
theorem bX8_tellsNodes_6 {I : Nat → Nat → Int32} {L : Nat → Int64} {Q : Option Value → (Nat → Nat → Int32) → (Nat → Int64) → Prop} {s0 : Int32}  (K1 : (¬ s0 = (-1 : Int32)) → XS mX8_tellsNodes 14 [] [] I L Q) (K2 : (s0 = (-1 : Int32)) → XS mX8_tellsNodes 10 [] [] I L Q) : XS mX8_tellsNodes 6 [] [.int s0] I L Q := by
  refine x_iconst (v := (-1 : Int32)) dX8_tellsNodes_6 (by decide) ?_
  exact x_icmp_ne 14 dX8_tellsNodes_7 (by decide) (fun h => K1 h) (fun h => K2 h)
theorem bX8_tellsNodes_10 {I : Nat → Nat → Int32} {L : Nat → Int64} {Q : Option Value → (Nat → Nat → Int32) → (Nat → Int64) → Prop}   (K : XS mX8_tellsNodes 15 [] [.int (1 : Int32)] I L Q) : XS mX8_tellsNodes 10 [] [] I L Q := by
  refine x_iconst (v := (1 : Int32)) dX8_tellsNodes_10 (by decide) ?_
  exact x_goto 15 dX8_tellsNodes_11 (by decide) (K)
theorem bX8_tellsNodes_14 {I : Nat → Nat → Int32} {L : Nat → Int64} {Q : Option Value → (Nat → Nat → Int32) → (Nat → Int64) → Prop}   (K : XS mX8_tellsNodes 15 [] [.int (0 : Int32)] I L Q) : XS mX8_tellsNodes 14 [] [] I L Q := by
  refine x_iconst (v := (0 : Int32)) dX8_tellsNodes_14 (by decide) ?_
  exact K
theorem bX8_tellsNodes_15 {I : Nat → Nat → Int32} {L : Nat → Int64} {Q : Option Value → (Nat → Nat → Int32) → (Nat → Int64) → Prop} {s0 : Int32} (hz1 : s0 = 0 ∨ s0 = 1) (K : Q (some (.int s0)) I L) : XS mX8_tellsNodes 15 [] [.int s0] I L Q := by
  exact xs_iret dX8_tellsNodes_15 rfl (x_nar _ hz1) K
theorem bX8_told_0 {I : Nat → Nat → Int32} {L : Nat → Int64} {Q : Option Value → (Nat → Nat → Int32) → (Nat → Int64) → Prop} {v1 : Int32} {v2 : Int32} (hb1 : vp_in ((v1 * (4 : Int32)) + v2) 96) (K : Q (some (.int (I 640 (((v1 * (4 : Int32)) + v2).toNatClampNeg)))) I L) : XS mX8_told 0 [(0, .ref 8), (1, .int v1), (2, .int v2)] [] I L Q := by
  refine x_aload_n 0 dX8_told_0 rfl rfl ?_
  refine xs_getr dX8_told_1 fl_X8_22 sh_8 rfl rf_516 ?_
  refine x_iload_n 1 dX8_told_4 rfl rfl ?_
  refine x_iconst (v := (4 : Int32)) dX8_told_5 (by decide) ?_
  refine x_imul dX8_told_6 ?_
  refine x_iload_n 2 dX8_told_7 rfl rfl ?_
  refine x_iadd dX8_told_8 ?_
  refine xs_iald 640 (((v1 * (4 : Int32)) + v2).toNatClampNeg) dX8_told_9 sh_10 rfl rfl hb1 ?_
  exact xs_iret dX8_told_10 rfl rfl K
theorem bX8_findFault_0 {I : Nat → Nat → Int32} {L : Nat → Int64} {Q : Option Value → (Nat → Nat → Int32) → (Nat → Int64) → Prop}   (K : XS mX2_pairsWithLinks 0 [(0, .ref 1)] [] (x_up I 519 0 (I 64 0)) L (fun r I' L' => XS mX8_findFault 19 [(0, .ref 8)] (r.toList ++ [.ref 8]) I' L' Q)) : XS mX8_findFault 0 [(0, .ref 8)] [] I L Q := by
  refine x_aload_n 0 dX8_findFault_0 rfl rfl ?_
  refine x_aload_n 0 dX8_findFault_1 rfl rfl ?_
  refine xs_getr dX8_findFault_2 fl_X8_38 sh_8 rfl rf_512 ?_
  refine xs_geti 64 dX8_findFault_5 fl_X8_46 sh_1 rfl rfl ?_
  refine xs_puti 519 dX8_findFault_8 fl_X8_31 sh_8 rfl rfl rfl ?_
  refine x_aload_n 0 dX8_findFault_11 rfl rfl ?_
  refine x_aload_n 0 dX8_findFault_12 rfl rfl ?_
  refine xs_getr dX8_findFault_13 fl_X8_38 sh_8 rfl rf_512 ?_
  exact xs_callV mX2_pairsWithLinks [] [.ref 8] 1 2 0 _ rfl dX8_findFault_16 ml_X8_49 qX2_pairsWithLinks rfl ⟨Nat.le_of_ble_eq_true rfl, Nat.le_of_ble_eq_true rfl⟩ ⟨rfl, rfl⟩ (Nat.le_of_ble_eq_true rfl) sh_1 (by decide) rfl (Nat.le_of_ble_eq_true rfl) (K)
theorem bX8_findFault_19 {I : Nat → Nat → Int32} {L : Nat → Int64} {Q : Option Value → (Nat → Nat → Int32) → (Nat → Int64) → Prop} {s1 : Int64}  (K : XS mX8_findFault 34 [(0, .ref 8), (1, .int (0 : Int32))] [] (x_up (x_up I 518 0 (0 : Int32)) 515 0 (0 : Int32)) (x_upL L 520 s1) Q) : XS mX8_findFault 19 [(0, .ref 8)] [.long s1, .ref 8] I L Q := by
  refine xs_putl 520 dX8_findFault_19 fl_X8_34 sh_8 rfl rfl rfl ?_
  refine x_aload_n 0 dX8_findFault_22 rfl rfl ?_
  refine x_iconst (v := (0 : Int32)) dX8_findFault_23 (by decide) ?_
  refine xs_puti 518 dX8_findFault_24 fl_X8_28 sh_8 rfl rfl rfl ?_
  refine x_aload_n 0 dX8_findFault_27 rfl rfl ?_
  refine x_iconst (v := (0 : Int32)) dX8_findFault_28 (by decide) ?_
  refine xs_puti 515 dX8_findFault_29 fl_X8_19 sh_8 rfl rfl rfl ?_
  refine x_iconst (v := (0 : Int32)) dX8_findFault_32 (by decide) ?_
  refine x_istore_n [(0, .ref 8), (1, .int (0 : Int32))] dX8_findFault_33 rfl (Nat.le_of_ble_eq_true rfl) rfl ?_
  exact K
theorem bX8_findFault_34 {I : Nat → Nat → Int32} {L : Nat → Int64} {Q : Option Value → (Nat → Nat → Int32) → (Nat → Int64) → Prop} {v1 : Int32}  (K1 : ((24 : Int32) ≤ v1) → XS mX8_findFault 96 [(0, .ref 8)] [] I L Q) (K2 : (¬ (24 : Int32) ≤ v1) → XS mX8_findFault 40 [(0, .ref 8), (1, .int v1)] [] I L Q) : XS mX8_findFault 34 [(0, .ref 8), (1, .int v1)] [] I L Q := by
  refine x_iload_n 1 dX8_findFault_34 rfl rfl ?_
  refine x_bipush (v := (24 : Int32)) dX8_findFault_35 (by decide) ?_
  exact x_icmp_ge 96 dX8_findFault_37 (by decide) (fun h => x_sub [0] rfl (K1 h)) (fun h => K2 h)
theorem bX8_findFault_40 {I : Nat → Nat → Int32} {L : Nat → Int64} {Q : Option Value → (Nat → Nat → Int32) → (Nat → Int64) → Prop} {v1 : Int32}  (K1 : (v1 ≤ 0) → XS mX8_findFault 53 [(0, .ref 8), (1, .int v1)] [] I L Q) (K2 : (¬ v1 ≤ 0) → XS mX8_findFault 44 [(0, .ref 8), (1, .int v1)] [] I L Q) : XS mX8_findFault 40 [(0, .ref 8), (1, .int v1)] [] I L Q := by
  refine x_iload_n 1 dX8_findFault_40 rfl rfl ?_
  exact x_if_le 53 dX8_findFault_41 (by decide) (fun h => K1 h) (fun h => K2 h)
theorem bX8_findFault_44 {I : Nat → Nat → Int32} {L : Nat → Int64} {Q : Option Value → (Nat → Nat → Int32) → (Nat → Int64) → Prop} {v1 : Int32}  (K : XS mX8_readSign 0 [(0, .ref 8), (1, .int (59 : Int32))] [] I L (fun r I' L' => XS mX8_findFault 50 [(0, .ref 8), (1, .int v1)] (r.toList ++ []) I' L' Q)) : XS mX8_findFault 44 [(0, .ref 8), (1, .int v1)] [] I L Q := by
  refine x_aload_n 0 dX8_findFault_44 rfl rfl ?_
  refine x_bipush (v := (59 : Int32)) dX8_findFault_45 (by decide) ?_
  exact xs_callV mX8_readSign [.int (59 : Int32)] [] 8 8 1 _ rfl dX8_findFault_47 ml_X8_53 qX8_readSign rfl ⟨Nat.le_of_ble_eq_true rfl, Nat.le_of_ble_eq_true rfl⟩ ⟨rfl, rfl⟩ (Nat.le_of_ble_eq_true rfl) sh_8 (by decide) rfl (Nat.le_of_ble_eq_true rfl) (K)
theorem bX8_findFault_50 {I : Nat → Nat → Int32} {L : Nat → Int64} {Q : Option Value → (Nat → Nat → Int32) → (Nat → Int64) → Prop} {v1 : Int32} {s0 : Int32}  (K1 : (s0 = 0) → XS mX8_findFault 61 [(0, .ref 8)] [] I L Q) (K2 : (¬ s0 = 0) → XS mX8_findFault 53 [(0, .ref 8), (1, .int v1)] [] I L Q) : XS mX8_findFault 50 [(0, .ref 8), (1, .int v1)] [.int s0] I L Q := by
  exact x_if_eq 61 dX8_findFault_50 (by decide) (fun h => x_sub [0] rfl (K1 h)) (fun h => K2 h)
theorem bX8_findFault_53 {I : Nat → Nat → Int32} {L : Nat → Int64} {Q : Option Value → (Nat → Nat → Int32) → (Nat → Int64) → Prop} {v1 : Int32}  (K : XS mX8_readClause 0 [(0, .ref 8), (1, .int v1)] [] I L (fun r I' L' => XS mX8_findFault 58 [(0, .ref 8), (1, .int v1)] (r.toList ++ []) I' L' Q)) : XS mX8_findFault 53 [(0, .ref 8), (1, .int v1)] [] I L Q := by
  refine x_aload_n 0 dX8_findFault_53 rfl rfl ?_
  refine x_iload_n 1 dX8_findFault_54 rfl rfl ?_
  exact xs_callV mX8_readClause [.int v1] [] 8 8 1 _ rfl dX8_findFault_55 ml_X8_57 qX8_readClause rfl ⟨Nat.le_of_ble_eq_true rfl, Nat.le_of_ble_eq_true rfl⟩ ⟨rfl, rfl⟩ (Nat.le_of_ble_eq_true rfl) sh_8 (by decide) rfl (Nat.le_of_ble_eq_true rfl) (K)
theorem bX8_findFault_58 {I : Nat → Nat → Int32} {L : Nat → Int64} {Q : Option Value → (Nat → Nat → Int32) → (Nat → Int64) → Prop} {v1 : Int32} {s0 : Int32}  (K1 : (¬ s0 = 0) → XS mX8_findFault 66 [(0, .ref 8), (1, .int v1)] [] I L Q) (K2 : (s0 = 0) → XS mX8_findFault 61 [(0, .ref 8)] [] I L Q) : XS mX8_findFault 58 [(0, .ref 8), (1, .int v1)] [.int s0] I L Q := by
  exact x_if_ne 66 dX8_findFault_58 (by decide) (fun h => K1 h) (fun h => x_sub [0] rfl (K2 h))
theorem bX8_findFault_61 {I : Nat → Nat → Int32} {L : Nat → Int64} {Q : Option Value → (Nat → Nat → Int32) → (Nat → Int64) → Prop}   (K : Q (some (.int (I 517 0))) I L) : XS mX8_findFault 61 [(0, .ref 8)] [] I L Q := by
  refine x_aload_n 0 dX8_findFault_61 rfl rfl ?_
  refine xs_geti 517 dX8_findFault_62 fl_X8_25 sh_8 rfl rfl ?_
  exact xs_iret dX8_findFault_65 rfl rfl K
theorem bX8_findFault_66 {I : Nat → Nat → Int32} {L : Nat → Int64} {Q : Option Value → (Nat → Nat → Int32) → (Nat → Int64) → Prop} {v1 : Int32}  (K : XS mX8_skipBlanks 0 [(0, .ref 8), (1, .int ((x_up I 515 0 (v1 + (1 : Int32))) 518 0))] [] (x_up I 515 0 (v1 + (1 : Int32))) L (fun r I' L' => XS mX8_findFault 81 [(0, .ref 8), (1, .int v1)] (r.toList ++ []) I' L' Q)) : XS mX8_findFault 66 [(0, .ref 8), (1, .int v1)] [] I L Q := by
  refine x_aload_n 0 dX8_findFault_66 rfl rfl ?_
  refine x_iload_n 1 dX8_findFault_67 rfl rfl ?_
  refine x_iconst (v := (1 : Int32)) dX8_findFault_68 (by decide) ?_
  refine x_iadd dX8_findFault_69 ?_
  refine xs_puti 515 dX8_findFault_70 fl_X8_19 sh_8 rfl rfl rfl ?_
  refine x_aload_n 0 dX8_findFault_73 rfl rfl ?_
  refine x_aload_n 0 dX8_findFault_74 rfl rfl ?_
  refine xs_geti 518 dX8_findFault_75 fl_X8_28 sh_8 rfl rfl ?_
  exact xs_callV mX8_skipBlanks [.int ((x_up I 515 0 (v1 + (1 : Int32))) 518 0)] [] 8 8 1 _ rfl dX8_findFault_78 ml_X8_61 qX8_skipBlanks rfl ⟨Nat.le_of_ble_eq_true rfl, Nat.le_of_ble_eq_true rfl⟩ ⟨rfl, rfl⟩ (Nat.le_of_ble_eq_true rfl) sh_8 (by decide) rfl (Nat.le_of_ble_eq_true rfl) (K)
theorem bX8_findFault_81 {I : Nat → Nat → Int32} {L : Nat → Int64} {Q : Option Value → (Nat → Nat → Int32) → (Nat → Int64) → Prop} {v1 : Int32} {s0 : Int32}  (K1 : (s0 < (I 514 0)) → XS mX8_findFault 90 [(0, .ref 8), (1, .int v1)] [] I L Q) (K2 : (¬ s0 < (I 514 0)) → XS mX8_findFault 88 [] [] I L Q) : XS mX8_findFault 81 [(0, .ref 8), (1, .int v1)] [.int s0] I L Q := by
  refine x_aload_n 0 dX8_findFault_81 rfl rfl ?_
  refine xs_geti 514 dX8_findFault_82 fl_X8_15 sh_8 rfl rfl ?_
  exact x_icmp_lt 90 dX8_findFault_85 (by decide) (fun h => K1 h) (fun h => x_sub [] rfl (K2 h))
theorem bX8_findFault_88 {I : Nat → Nat → Int32} {L : Nat → Int64} {Q : Option Value → (Nat → Nat → Int32) → (Nat → Int64) → Prop}   (K : Q (some (.int (-1 : Int32))) I L) : XS mX8_findFault 88 [] [] I L Q := by
  refine x_iconst (v := (-1 : Int32)) dX8_findFault_88 (by decide) ?_
  exact xs_iret dX8_findFault_89 rfl rfl K
theorem bX8_findFault_90 {I : Nat → Nat → Int32} {L : Nat → Int64} {Q : Option Value → (Nat → Nat → Int32) → (Nat → Int64) → Prop} {v1 : Int32}  (K : XS mX8_findFault 34 [(0, .ref 8), (1, .int (v1 + (1 : Int32)))] [] I L Q) : XS mX8_findFault 90 [(0, .ref 8), (1, .int v1)] [] I L Q := by
  refine x_iinc 1 (v1 + (1 : Int32)) [(0, .ref 8), (1, .int (v1 + (1 : Int32)))] dX8_findFault_90 rfl rfl (Nat.le_of_ble_eq_true rfl) rfl ?_
  exact x_goto 34 dX8_findFault_93 (by decide) (K)
theorem bX8_findFault_96 {I : Nat → Nat → Int32} {L : Nat → Int64} {Q : Option Value → (Nat → Nat → Int32) → (Nat → Int64) → Prop}   (K : XS mX8_readToken 0 [(0, .ref 8)] [] I L (fun r I' L' => XS mX8_findFault 100 [(0, .ref 8)] (r.toList ++ []) I' L' Q)) : XS mX8_findFault 96 [(0, .ref 8)] [] I L Q := by
  refine x_aload_n 0 dX8_findFault_96 rfl rfl ?_
  exact xs_callV mX8_readToken [] [] 8 8 0 _ rfl dX8_findFault_97 ml_X8_65 qX8_readToken rfl ⟨Nat.le_of_ble_eq_true rfl, Nat.le_of_ble_eq_true rfl⟩ ⟨rfl, rfl⟩ (Nat.le_of_ble_eq_true rfl) sh_8 (by decide) rfl (Nat.le_of_ble_eq_true rfl) (K)
theorem bX8_findFault_100 {I : Nat → Nat → Int32} {L : Nat → Int64} {Q : Option Value → (Nat → Nat → Int32) → (Nat → Int64) → Prop}   (K : Q (some (.int (I 517 0))) I L) : XS mX8_findFault 100 [(0, .ref 8)] [] I L Q := by
  refine x_aload_n 0 dX8_findFault_100 rfl rfl ?_
  refine xs_geti 517 dX8_findFault_101 fl_X8_25 sh_8 rfl rfl ?_
  exact xs_iret dX8_findFault_104 rfl rfl K
theorem bX8_readClause_0 {I : Nat → Nat → Int32} {L : Nat → Int64} {Q : Option Value → (Nat → Nat → Int32) → (Nat → Int64) → Prop} {v1 : Int32}  (K : XS mX8_readToken 0 [(0, .ref 8)] [] I L (fun r I' L' => XS mX8_readClause 4 [(0, .ref 8), (1, .int v1)] (r.toList ++ []) I' L' Q)) : XS mX8_readClause 0 [(0, .ref 8), (1, .int v1)] [] I L Q := by
  refine x_aload_n 0 dX8_readClause_0 rfl rfl ?_
  exact xs_callV mX8_readToken [] [] 8 8 0 _ rfl dX8_readClause_1 ml_X8_65 qX8_readToken rfl ⟨Nat.le_of_ble_eq_true rfl, Nat.le_of_ble_eq_true rfl⟩ ⟨rfl, rfl⟩ (Nat.le_of_ble_eq_true rfl) sh_8 (by decide) rfl (Nat.le_of_ble_eq_true rfl) (K)
theorem bX8_readClause_4 {I : Nat → Nat → Int32} {L : Nat → Int64} {Q : Option Value → (Nat → Nat → Int32) → (Nat → Int64) → Prop} {v1 : Int32}  (K : XS mX8_isWord 0 [(0, .ref 8), (1, .ref 1000000)] [] I L (fun r I' L' => XS mX8_readClause 10 [(0, .ref 8), (1, .int v1)] (r.toList ++ []) I' L' Q)) : XS mX8_readClause 4 [(0, .ref 8), (1, .int v1)] [] I L Q := by
  refine x_aload_n 0 dX8_readClause_4 rfl rfl ?_
  refine x_ldcS 68 1000000 rfl (by decide) dX8_readClause_5 ?_
  exact xs_callV mX8_isWord [.ref 1000000] [] 8 8 1 _ rfl dX8_readClause_7 ml_X8_69 qX8_isWord rfl ⟨Nat.le_of_ble_eq_true rfl, Nat.le_of_ble_eq_true rfl⟩ ⟨rfl, rfl⟩ (Nat.le_of_ble_eq_true rfl) sh_8 (by decide) rfl (Nat.le_of_ble_eq_true rfl) (K)
theorem bX8_readClause_10 {I : Nat → Nat → Int32} {L : Nat → Int64} {Q : Option Value → (Nat → Nat → Int32) → (Nat → Int64) → Prop} {v1 : Int32} {s0 : Int32}  (K1 : (s0 = 0) → XS mX8_readClause 19 [(0, .ref 8), (1, .int v1)] [] I L Q) (K2 : (¬ s0 = 0) → XS mX8_readClause 13 [(0, .ref 8), (1, .int v1)] [] I L Q) : XS mX8_readClause 10 [(0, .ref 8), (1, .int v1)] [.int s0] I L Q := by
  exact x_if_eq 19 dX8_readClause_10 (by decide) (fun h => K1 h) (fun h => K2 h)
theorem bX8_readClause_13 {I : Nat → Nat → Int32} {L : Nat → Int64} {Q : Option Value → (Nat → Nat → Int32) → (Nat → Int64) → Prop} {v1 : Int32}  (K : XS mX8_readNodes 0 [(0, .ref 8), (1, .int v1)] [] I L (fun r I' L' => XS mX8_readClause 18 [] (r.toList ++ []) I' L' Q)) : XS mX8_readClause 13 [(0, .ref 8), (1, .int v1)] [] I L Q := by
  refine x_aload_n 0 dX8_readClause_13 rfl rfl ?_
  refine x_iload_n 1 dX8_readClause_14 rfl rfl ?_
  refine x_sub [] rfl ?_
  exact xs_callV mX8_readNodes [.int v1] [] 8 8 1 _ rfl dX8_readClause_15 ml_X8_73 qX8_readNodes rfl ⟨Nat.le_of_ble_eq_true rfl, Nat.le_of_ble_eq_true rfl⟩ ⟨rfl, rfl⟩ (Nat.le_of_ble_eq_true rfl) sh_8 (by decide) rfl (Nat.le_of_ble_eq_true rfl) (K)
theorem bX8_readClause_18 {I : Nat → Nat → Int32} {L : Nat → Int64} {Q : Option Value → (Nat → Nat → Int32) → (Nat → Int64) → Prop} {s0 : Int32} (hz1 : s0 = 0 ∨ s0 = 1) (K : Q (some (.int s0)) I L) : XS mX8_readClause 18 [] [.int s0] I L Q := by
  exact xs_iret dX8_readClause_18 rfl (x_nar _ hz1) K
theorem bX8_readClause_19 {I : Nat → Nat → Int32} {L : Nat → Int64} {Q : Option Value → (Nat → Nat → Int32) → (Nat → Int64) → Prop} {v1 : Int32}  (K : XS mX8_isWord 0 [(0, .ref 8), (1, .ref 1000001)] [] I L (fun r I' L' => XS mX8_readClause 25 [(0, .ref 8), (1, .int v1)] (r.toList ++ []) I' L' Q)) : XS mX8_readClause 19 [(0, .ref 8), (1, .int v1)] [] I L Q := by
  refine x_aload_n 0 dX8_readClause_19 rfl rfl ?_
  refine x_ldcS 76 1000001 rfl (by decide) dX8_readClause_20 ?_
  exact xs_callV mX8_isWord [.ref 1000001] [] 8 8 1 _ rfl dX8_readClause_22 ml_X8_69 qX8_isWord rfl ⟨Nat.le_of_ble_eq_true rfl, Nat.le_of_ble_eq_true rfl⟩ ⟨rfl, rfl⟩ (Nat.le_of_ble_eq_true rfl) sh_8 (by decide) rfl (Nat.le_of_ble_eq_true rfl) (K)
theorem bX8_readClause_25 {I : Nat → Nat → Int32} {L : Nat → Int64} {Q : Option Value → (Nat → Nat → Int32) → (Nat → Int64) → Prop} {v1 : Int32} {s0 : Int32}  (K1 : (s0 = 0) → XS mX8_readClause 40 [] [] I L Q) (K2 : (¬ s0 = 0) → XS mX8_readClause 28 [(0, .ref 8), (1, .int v1)] [] I L Q) : XS mX8_readClause 25 [(0, .ref 8), (1, .int v1)] [.int s0] I L Q := by
  exact x_if_eq 40 dX8_readClause_25 (by decide) (fun h => x_sub [] rfl (K1 h)) (fun h => K2 h)
theorem bX8_readClause_28 {I : Nat → Nat → Int32} {L : Nat → Int64} {Q : Option Value → (Nat → Nat → Int32) → (Nat → Int64) → Prop} {v1 : Int32}  (K : XS mX8_readLink 0 [(0, .ref 8), (1, .int v1)] [] I L (fun r I' L' => XS mX8_readClause 33 [] (r.toList ++ []) I' L' Q)) : XS mX8_readClause 28 [(0, .ref 8), (1, .int v1)] [] I L Q := by
  refine x_aload_n 0 dX8_readClause_28 rfl rfl ?_
  refine x_iload_n 1 dX8_readClause_29 rfl rfl ?_
  refine x_sub [] rfl ?_
  exact xs_callV mX8_readLink [.int v1] [] 8 8 1 _ rfl dX8_readClause_30 ml_X8_78 qX8_readLink rfl ⟨Nat.le_of_ble_eq_true rfl, Nat.le_of_ble_eq_true rfl⟩ ⟨rfl, rfl⟩ (Nat.le_of_ble_eq_true rfl) sh_8 (by decide) rfl (Nat.le_of_ble_eq_true rfl) (K)
theorem bX8_readClause_33 {I : Nat → Nat → Int32} {L : Nat → Int64} {Q : Option Value → (Nat → Nat → Int32) → (Nat → Int64) → Prop} {s0 : Int32}  (K1 : (s0 = 0) → XS mX8_readClause 40 [] [] I L Q) (K2 : (¬ s0 = 0) → XS mX8_readClause 36 [] [] I L Q) : XS mX8_readClause 33 [] [.int s0] I L Q := by
  exact x_if_eq 40 dX8_readClause_33 (by decide) (fun h => K1 h) (fun h => K2 h)
theorem bX8_readClause_36 {I : Nat → Nat → Int32} {L : Nat → Int64} {Q : Option Value → (Nat → Nat → Int32) → (Nat → Int64) → Prop}   (K : XS mX8_readClause 41 [] [.int (1 : Int32)] I L Q) : XS mX8_readClause 36 [] [] I L Q := by
  refine x_iconst (v := (1 : Int32)) dX8_readClause_36 (by decide) ?_
  exact x_goto 41 dX8_readClause_37 (by decide) (K)
theorem bX8_readClause_40 {I : Nat → Nat → Int32} {L : Nat → Int64} {Q : Option Value → (Nat → Nat → Int32) → (Nat → Int64) → Prop}   (K : XS mX8_readClause 41 [] [.int (0 : Int32)] I L Q) : XS mX8_readClause 40 [] [] I L Q := by
  refine x_iconst (v := (0 : Int32)) dX8_readClause_40 (by decide) ?_
  exact K
theorem bX8_readClause_41 {I : Nat → Nat → Int32} {L : Nat → Int64} {Q : Option Value → (Nat → Nat → Int32) → (Nat → Int64) → Prop} {s0 : Int32} (hz1 : s0 = 0 ∨ s0 = 1) (K : Q (some (.int s0)) I L) : XS mX8_readClause 41 [] [.int s0] I L Q := by
  exact xs_iret dX8_readClause_41 rfl (x_nar _ hz1) K
theorem bX8_readNodes_0 {I : Nat → Nat → Int32} {L : Nat → Int64} {Q : Option Value → (Nat → Nat → Int32) → (Nat → Int64) → Prop} {v1 : Int32}  (K : XS mX8_readNumber 0 [(0, .ref 8), (1, .int (2 : Int32)), (2, .int (8 : Int32))] [] I L (fun r I' L' => XS mX8_readNodes 7 [(0, .ref 8), (1, .int v1)] (r.toList ++ []) I' L' Q)) : XS mX8_readNodes 0 [(0, .ref 8), (1, .int v1)] [] I L Q := by
  refine x_aload_n 0 dX8_readNodes_0 rfl rfl ?_
  refine x_iconst (v := (2 : Int32)) dX8_readNodes_1 (by decide) ?_
  refine x_bipush (v := (8 : Int32)) dX8_readNodes_2 (by decide) ?_
  exact xs_callV mX8_readNumber [.int (2 : Int32), .int (8 : Int32)] [] 8 8 2 _ rfl dX8_readNodes_4 ml_X8_81 qX8_readNumber rfl ⟨Nat.le_of_ble_eq_true rfl, Nat.le_of_ble_eq_true rfl⟩ ⟨rfl, rfl⟩ (Nat.le_of_ble_eq_true rfl) sh_8 (by decide) rfl (Nat.le_of_ble_eq_true rfl) (K)
theorem bX8_readNodes_7 {I : Nat → Nat → Int32} {L : Nat → Int64} {Q : Option Value → (Nat → Nat → Int32) → (Nat → Int64) → Prop} {v1 : Int32} {s0 : Int32}  (K1 : (¬ s0 = (-1 : Int32)) → XS mX8_readNodes 15 [(0, .ref 8), (1, .int v1), (2, .int s0)] [] I L Q) (K2 : (s0 = (-1 : Int32)) → XS mX8_readNodes 13 [] [] I L Q) : XS mX8_readNodes 7 [(0, .ref 8), (1, .int v1)] [.int s0] I L Q := by
  refine x_istore_n [(0, .ref 8), (1, .int v1), (2, .int s0)] dX8_readNodes_7 rfl (Nat.le_of_ble_eq_true rfl) rfl ?_
  refine x_iload_n 2 dX8_readNodes_8 rfl rfl ?_
  refine x_iconst (v := (-1 : Int32)) dX8_readNodes_9 (by decide) ?_
  exact x_icmp_ne 15 dX8_readNodes_10 (by decide) (fun h => K1 h) (fun h => x_sub [] rfl (K2 h))
theorem bX8_readNodes_13 {I : Nat → Nat → Int32} {L : Nat → Int64} {Q : Option Value → (Nat → Nat → Int32) → (Nat → Int64) → Prop}   (K : Q (some (.int (0 : Int32))) I L) : XS mX8_readNodes 13 [] [] I L Q := by
  refine x_iconst (v := (0 : Int32)) dX8_readNodes_13 (by decide) ?_
  exact xs_iret dX8_readNodes_14 rfl (x_nar _ (Or.inl rfl)) K
theorem bX8_readNodes_15 {I : Nat → Nat → Int32} {L : Nat → Int64} {Q : Option Value → (Nat → Nat → Int32) → (Nat → Int64) → Prop} {v1 : Int32} {v2 : Int32}  (K : XS mX8_keep 0 [(0, .ref 8), (1, .int v1), (2, .int v2), (3, .int (-1 : Int32)), (4, .int (-1 : Int32)), (5, .int (-1 : Int32))] [] (x_up I 519 0 v2) (x_upL L 520 (0 : Int64)) (fun r I' L' => XS mX8_readNodes 34 [] (r.toList ++ []) I' L' Q)) : XS mX8_readNodes 15 [(0, .ref 8), (1, .int v1), (2, .int v2)] [] I L Q := by
  refine x_aload_n 0 dX8_readNodes_15 rfl rfl ?_
  refine x_iload_n 2 dX8_readNodes_16 rfl rfl ?_
  refine xs_puti 519 dX8_readNodes_17 fl_X8_31 sh_8 rfl rfl rfl ?_
  refine x_aload_n 0 dX8_readNodes_20 rfl rfl ?_
  refine x_lconst (v := (0 : Int64)) dX8_readNodes_21 (by decide) ?_
  refine xs_putl 520 dX8_readNodes_22 fl_X8_34 sh_8 rfl rfl rfl ?_
  refine x_aload_n 0 dX8_readNodes_25 rfl rfl ?_
  refine x_iload_n 1 dX8_readNodes_26 rfl rfl ?_
  refine x_iload_n 2 dX8_readNodes_27 rfl rfl ?_
  refine x_iconst (v := (-1 : Int32)) dX8_readNodes_28 (by decide) ?_
  refine x_iconst (v := (-1 : Int32)) dX8_readNodes_29 (by decide) ?_
  refine x_iconst (v := (-1 : Int32)) dX8_readNodes_30 (by decide) ?_
  refine x_sub [] rfl ?_
  exact xs_callV mX8_keep [.int v1, .int v2, .int (-1 : Int32), .int (-1 : Int32), .int (-1 : Int32)] [] 8 8 5 _ rfl dX8_readNodes_31 ml_X8_84 qX8_keep rfl ⟨Nat.le_of_ble_eq_true rfl, Nat.le_of_ble_eq_true rfl⟩ ⟨rfl, rfl⟩ (Nat.le_of_ble_eq_true rfl) sh_8 (by decide) rfl (Nat.le_of_ble_eq_true rfl) (K)
theorem bX8_readNodes_34 {I : Nat → Nat → Int32} {L : Nat → Int64} {Q : Option Value → (Nat → Nat → Int32) → (Nat → Int64) → Prop}   (K : Q (some (.int (1 : Int32))) I L) : XS mX8_readNodes 34 [] [] I L Q := by
  refine x_iconst (v := (1 : Int32)) dX8_readNodes_34 (by decide) ?_
  exact xs_iret dX8_readNodes_35 rfl (x_nar _ (Or.inr rfl)) K
theorem bX8_readLink_0 {I : Nat → Nat → Int32} {L : Nat → Int64} {Q : Option Value → (Nat → Nat → Int32) → (Nat → Int64) → Prop} {v1 : Int32}  (K : XS mX8_readNumber 0 [(0, .ref 8), (1, .int (0 : Int32)), (2, .int ((I 519 0) - (1 : Int32)))] [] I L (fun r I' L' => XS mX8_readLink 11 [(0, .ref 8), (1, .int v1)] (r.toList ++ []) I' L' Q)) : XS mX8_readLink 0 [(0, .ref 8), (1, .int v1)] [] I L Q := by
  refine x_aload_n 0 dX8_readLink_0 rfl rfl ?_
  refine x_iconst (v := (0 : Int32)) dX8_readLink_1 (by decide) ?_
  refine x_aload_n 0 dX8_readLink_2 rfl rfl ?_
  refine xs_geti 519 dX8_readLink_3 fl_X8_31 sh_8 rfl rfl ?_
  refine x_iconst (v := (1 : Int32)) dX8_readLink_6 (by decide) ?_
  refine x_isub dX8_readLink_7 ?_
  exact xs_callV mX8_readNumber [.int (0 : Int32), .int ((I 519 0) - (1 : Int32))] [] 8 8 2 _ rfl dX8_readLink_8 ml_X8_81 qX8_readNumber rfl ⟨Nat.le_of_ble_eq_true rfl, Nat.le_of_ble_eq_true rfl⟩ ⟨rfl, rfl⟩ (Nat.le_of_ble_eq_true rfl) sh_8 (by decide) rfl (Nat.le_of_ble_eq_true rfl) (K)
theorem bX8_readLink_11 {I : Nat → Nat → Int32} {L : Nat → Int64} {Q : Option Value → (Nat → Nat → Int32) → (Nat → Int64) → Prop} {v1 : Int32} {s0 : Int32}  (K1 : (¬ s0 = (-1 : Int32)) → XS mX8_readLink 19 [(0, .ref 8), (1, .int v1), (2, .int s0)] [] I L Q) (K2 : (s0 = (-1 : Int32)) → XS mX8_readLink 17 [] [] I L Q) : XS mX8_readLink 11 [(0, .ref 8), (1, .int v1)] [.int s0] I L Q := by
  refine x_istore_n [(0, .ref 8), (1, .int v1), (2, .int s0)] dX8_readLink_11 rfl (Nat.le_of_ble_eq_true rfl) rfl ?_
  refine x_iload_n 2 dX8_readLink_12 rfl rfl ?_
  refine x_iconst (v := (-1 : Int32)) dX8_readLink_13 (by decide) ?_
  exact x_icmp_ne 19 dX8_readLink_14 (by decide) (fun h => K1 h) (fun h => x_sub [] rfl (K2 h))
theorem bX8_readLink_17 {I : Nat → Nat → Int32} {L : Nat → Int64} {Q : Option Value → (Nat → Nat → Int32) → (Nat → Int64) → Prop}   (K : Q (some (.int (0 : Int32))) I L) : XS mX8_readLink 17 [] [] I L Q := by
  refine x_iconst (v := (0 : Int32)) dX8_readLink_17 (by decide) ?_
  exact xs_iret dX8_readLink_18 rfl (x_nar _ (Or.inl rfl)) K
theorem bX8_readLink_19 {I : Nat → Nat → Int32} {L : Nat → Int64} {Q : Option Value → (Nat → Nat → Int32) → (Nat → Int64) → Prop} {v1 : Int32} {v2 : Int32}  (K : XS mX8_readNumber 0 [(0, .ref 8), (1, .int (0 : Int32)), (2, .int ((I 519 0) - (1 : Int32)))] [] I L (fun r I' L' => XS mX8_readLink 30 [(0, .ref 8), (1, .int v1), (2, .int v2)] (r.toList ++ []) I' L' Q)) : XS mX8_readLink 19 [(0, .ref 8), (1, .int v1), (2, .int v2)] [] I L Q := by
  refine x_aload_n 0 dX8_readLink_19 rfl rfl ?_
  refine x_iconst (v := (0 : Int32)) dX8_readLink_20 (by decide) ?_
  refine x_aload_n 0 dX8_readLink_21 rfl rfl ?_
  refine xs_geti 519 dX8_readLink_22 fl_X8_31 sh_8 rfl rfl ?_
  refine x_iconst (v := (1 : Int32)) dX8_readLink_25 (by decide) ?_
  refine x_isub dX8_readLink_26 ?_
  exact xs_callV mX8_readNumber [.int (0 : Int32), .int ((I 519 0) - (1 : Int32))] [] 8 8 2 _ rfl dX8_readLink_27 ml_X8_81 qX8_readNumber rfl ⟨Nat.le_of_ble_eq_true rfl, Nat.le_of_ble_eq_true rfl⟩ ⟨rfl, rfl⟩ (Nat.le_of_ble_eq_true rfl) sh_8 (by decide) rfl (Nat.le_of_ble_eq_true rfl) (K)
theorem bX8_readLink_30 {I : Nat → Nat → Int32} {L : Nat → Int64} {Q : Option Value → (Nat → Nat → Int32) → (Nat → Int64) → Prop} {v1 : Int32} {v2 : Int32} {s0 : Int32}  (K1 : (s0 = (-1 : Int32)) → XS mX8_readLink 53 [] [] I L Q) (K2 : (¬ s0 = (-1 : Int32)) → XS mX8_readLink 36 [(0, .ref 8), (1, .int v1), (2, .int v2), (3, .int s0)] [] I L Q) : XS mX8_readLink 30 [(0, .ref 8), (1, .int v1), (2, .int v2)] [.int s0] I L Q := by
  refine x_istore_n [(0, .ref 8), (1, .int v1), (2, .int v2), (3, .int s0)] dX8_readLink_30 rfl (Nat.le_of_ble_eq_true rfl) rfl ?_
  refine x_iload_n 3 dX8_readLink_31 rfl rfl ?_
  refine x_iconst (v := (-1 : Int32)) dX8_readLink_32 (by decide) ?_
  exact x_icmp_eq 53 dX8_readLink_33 (by decide) (fun h => x_sub [] rfl (K1 h)) (fun h => K2 h)
theorem bX8_readLink_36 {I : Nat → Nat → Int32} {L : Nat → Int64} {Q : Option Value → (Nat → Nat → Int32) → (Nat → Int64) → Prop} {v1 : Int32} {v2 : Int32} {v3 : Int32}  (K1 : (v3 = v2) → XS mX8_readLink 53 [] [] I L Q) (K2 : (¬ v3 = v2) → XS mX8_readLink 41 [(0, .ref 8), (1, .int v1), (2, .int v2), (3, .int v3)] [] I L Q) : XS mX8_readLink 36 [(0, .ref 8), (1, .int v1), (2, .int v2), (3, .int v3)] [] I L Q := by
  refine x_iload_n 3 dX8_readLink_36 rfl rfl ?_
  refine x_iload_n 2 dX8_readLink_37 rfl rfl ?_
  exact x_icmp_eq 53 dX8_readLink_38 (by decide) (fun h => x_sub [] rfl (K1 h)) (fun h => K2 h)
theorem bX8_readLink_41 {I : Nat → Nat → Int32} {L : Nat → Int64} {Q : Option Value → (Nat → Nat → Int32) → (Nat → Int64) → Prop} {v1 : Int32} {v2 : Int32} {v3 : Int32}  (K : XS mX2_pairOf 0 [(0, .int v2), (1, .int v3)] [] I L (fun r I' L' => XS mX8_readLink 47 [(0, .ref 8), (1, .int v1), (2, .int v2), (3, .int v3)] (r.toList ++ [.ref 8]) I' L' Q)) : XS mX8_readLink 41 [(0, .ref 8), (1, .int v1), (2, .int v2), (3, .int v3)] [] I L Q := by
  refine x_aload_n 0 dX8_readLink_41 rfl rfl ?_
  refine x_iload_n 2 dX8_readLink_42 rfl rfl ?_
  refine x_iload_n 3 dX8_readLink_43 rfl rfl ?_
  exact xs_callS mX2_pairOf [.int v2, .int v3] [.ref 8] 2 _ rfl dX8_readLink_44 ml_X8_88 qX2_pairOf rfl ⟨Nat.le_of_ble_eq_true rfl, Nat.le_of_ble_eq_true rfl⟩ ⟨rfl, rfl⟩ (Nat.le_of_ble_eq_true rfl) (Nat.le_of_ble_eq_true rfl) (K)
theorem bX8_readLink_47 {I : Nat → Nat → Int32} {L : Nat → Int64} {Q : Option Value → (Nat → Nat → Int32) → (Nat → Int64) → Prop} {v1 : Int32} {v2 : Int32} {v3 : Int32} {s1 : Int64}  (K : XS mX8_isTooMany 0 [(0, .ref 8), (1, .long s1)] [] I L (fun r I' L' => XS mX8_readLink 50 [(0, .ref 8), (1, .int v1), (2, .int v2), (3, .int v3)] (r.toList ++ []) I' L' Q)) : XS mX8_readLink 47 [(0, .ref 8), (1, .int v1), (2, .int v2), (3, .int v3)] [.long s1, .ref 8] I L Q := by
  exact xs_callV mX8_isTooMany [.long s1] [] 8 8 1 _ rfl dX8_readLink_47 ml_X8_92 qX8_isTooMany rfl ⟨Nat.le_of_ble_eq_true rfl, Nat.le_of_ble_eq_true rfl⟩ ⟨rfl, rfl⟩ (Nat.le_of_ble_eq_true rfl) sh_8 (by decide) rfl (Nat.le_of_ble_eq_true rfl) (K)
theorem bX8_readLink_50 {I : Nat → Nat → Int32} {L : Nat → Int64} {Q : Option Value → (Nat → Nat → Int32) → (Nat → Int64) → Prop} {v1 : Int32} {v2 : Int32} {v3 : Int32} {s0 : Int32}  (K1 : (s0 = 0) → XS mX8_readLink 55 [(0, .ref 8), (1, .int v1), (2, .int v2), (3, .int v3)] [] I L Q) (K2 : (¬ s0 = 0) → XS mX8_readLink 53 [] [] I L Q) : XS mX8_readLink 50 [(0, .ref 8), (1, .int v1), (2, .int v2), (3, .int v3)] [.int s0] I L Q := by
  exact x_if_eq 55 dX8_readLink_50 (by decide) (fun h => K1 h) (fun h => x_sub [] rfl (K2 h))
theorem bX8_readLink_53 {I : Nat → Nat → Int32} {L : Nat → Int64} {Q : Option Value → (Nat → Nat → Int32) → (Nat → Int64) → Prop}   (K : Q (some (.int (0 : Int32))) I L) : XS mX8_readLink 53 [] [] I L Q := by
  refine x_iconst (v := (0 : Int32)) dX8_readLink_53 (by decide) ?_
  exact xs_iret dX8_readLink_54 rfl (x_nar _ (Or.inl rfl)) K
theorem bX8_readLink_55 {I : Nat → Nat → Int32} {L : Nat → Int64} {Q : Option Value → (Nat → Nat → Int32) → (Nat → Int64) → Prop} {v1 : Int32} {v2 : Int32} {v3 : Int32}  (K : XS mX8_readNumber 0 [(0, .ref 8), (1, .int (1 : Int32)), (2, .int (9 : Int32))] [] I L (fun r I' L' => XS mX8_readLink 62 [(0, .ref 8), (1, .int v1), (2, .int v2), (3, .int v3)] (r.toList ++ []) I' L' Q)) : XS mX8_readLink 55 [(0, .ref 8), (1, .int v1), (2, .int v2), (3, .int v3)] [] I L Q := by
  refine x_aload_n 0 dX8_readLink_55 rfl rfl ?_
  refine x_iconst (v := (1 : Int32)) dX8_readLink_56 (by decide) ?_
  refine x_bipush (v := (9 : Int32)) dX8_readLink_57 (by decide) ?_
  exact xs_callV mX8_readNumber [.int (1 : Int32), .int (9 : Int32)] [] 8 8 2 _ rfl dX8_readLink_59 ml_X8_81 qX8_readNumber rfl ⟨Nat.le_of_ble_eq_true rfl, Nat.le_of_ble_eq_true rfl⟩ ⟨rfl, rfl⟩ (Nat.le_of_ble_eq_true rfl) sh_8 (by decide) rfl (Nat.le_of_ble_eq_true rfl) (K)
theorem bX8_readLink_62 {I : Nat → Nat → Int32} {L : Nat → Int64} {Q : Option Value → (Nat → Nat → Int32) → (Nat → Int64) → Prop} {v1 : Int32} {v2 : Int32} {v3 : Int32} {s0 : Int32}  (K1 : (¬ s0 = (-1 : Int32)) → XS mX8_readLink 72 [(0, .ref 8), (1, .int v1), (2, .int v2), (3, .int v3), (4, .int s0)] [] I L Q) (K2 : (s0 = (-1 : Int32)) → XS mX8_readLink 70 [] [] I L Q) : XS mX8_readLink 62 [(0, .ref 8), (1, .int v1), (2, .int v2), (3, .int v3)] [.int s0] I L Q := by
  refine x_istore [(0, .ref 8), (1, .int v1), (2, .int v2), (3, .int v3), (4, .int s0)] dX8_readLink_62 (Nat.le_of_ble_eq_true rfl) rfl ?_
  refine x_iload 4 dX8_readLink_64 rfl ?_
  refine x_iconst (v := (-1 : Int32)) dX8_readLink_66 (by decide) ?_
  exact x_icmp_ne 72 dX8_readLink_67 (by decide) (fun h => K1 h) (fun h => x_sub [] rfl (K2 h))
theorem bX8_readLink_70 {I : Nat → Nat → Int32} {L : Nat → Int64} {Q : Option Value → (Nat → Nat → Int32) → (Nat → Int64) → Prop}   (K : Q (some (.int (0 : Int32))) I L) : XS mX8_readLink 70 [] [] I L Q := by
  refine x_iconst (v := (0 : Int32)) dX8_readLink_70 (by decide) ?_
  exact xs_iret dX8_readLink_71 rfl (x_nar _ (Or.inl rfl)) K
theorem bX8_readLink_72 {I : Nat → Nat → Int32} {L : Nat → Int64} {Q : Option Value → (Nat → Nat → Int32) → (Nat → Int64) → Prop} {v1 : Int32} {v2 : Int32} {v3 : Int32} {v4 : Int32}  (K : XS mX8_readNumber 0 [(0, .ref 8), (1, .int (1 : Int32)), (2, .int (9 : Int32))] [] I L (fun r I' L' => XS mX8_readLink 79 [(0, .ref 8), (1, .int v1), (2, .int v2), (3, .int v3), (4, .int v4)] (r.toList ++ []) I' L' Q)) : XS mX8_readLink 72 [(0, .ref 8), (1, .int v1), (2, .int v2), (3, .int v3), (4, .int v4)] [] I L Q := by
  refine x_aload_n 0 dX8_readLink_72 rfl rfl ?_
  refine x_iconst (v := (1 : Int32)) dX8_readLink_73 (by decide) ?_
  refine x_bipush (v := (9 : Int32)) dX8_readLink_74 (by decide) ?_
  exact xs_callV mX8_readNumber [.int (1 : Int32), .int (9 : Int32)] [] 8 8 2 _ rfl dX8_readLink_76 ml_X8_81 qX8_readNumber rfl ⟨Nat.le_of_ble_eq_true rfl, Nat.le_of_ble_eq_true rfl⟩ ⟨rfl, rfl⟩ (Nat.le_of_ble_eq_true rfl) sh_8 (by decide) rfl (Nat.le_of_ble_eq_true rfl) (K)
theorem bX8_readLink_79 {I : Nat → Nat → Int32} {L : Nat → Int64} {Q : Option Value → (Nat → Nat → Int32) → (Nat → Int64) → Prop} {v1 : Int32} {v2 : Int32} {v3 : Int32} {v4 : Int32} {s0 : Int32}  (K1 : (¬ s0 = (-1 : Int32)) → XS mX8_readLink 89 [(0, .ref 8), (1, .int v1), (2, .int v2), (3, .int v3), (4, .int v4), (5, .int s0)] [] I L Q) (K2 : (s0 = (-1 : Int32)) → XS mX8_readLink 87 [] [] I L Q) : XS mX8_readLink 79 [(0, .ref 8), (1, .int v1), (2, .int v2), (3, .int v3), (4, .int v4)] [.int s0] I L Q := by
  refine x_istore [(0, .ref 8), (1, .int v1), (2, .int v2), (3, .int v3), (4, .int v4), (5, .int s0)] dX8_readLink_79 (Nat.le_of_ble_eq_true rfl) rfl ?_
  refine x_iload 5 dX8_readLink_81 rfl ?_
  refine x_iconst (v := (-1 : Int32)) dX8_readLink_83 (by decide) ?_
  exact x_icmp_ne 89 dX8_readLink_84 (by decide) (fun h => K1 h) (fun h => x_sub [] rfl (K2 h))
theorem bX8_readLink_87 {I : Nat → Nat → Int32} {L : Nat → Int64} {Q : Option Value → (Nat → Nat → Int32) → (Nat → Int64) → Prop}   (K : Q (some (.int (0 : Int32))) I L) : XS mX8_readLink 87 [] [] I L Q := by
  refine x_iconst (v := (0 : Int32)) dX8_readLink_87 (by decide) ?_
  exact xs_iret dX8_readLink_88 rfl (x_nar _ (Or.inl rfl)) K
theorem bX8_readLink_89 {I : Nat → Nat → Int32} {L : Nat → Int64} {Q : Option Value → (Nat → Nat → Int32) → (Nat → Int64) → Prop} {v1 : Int32} {v2 : Int32} {v3 : Int32} {v4 : Int32} {v5 : Int32}  (K : XS mX2_pairOf 0 [(0, .int v2), (1, .int v3)] [] I L (fun r I' L' => XS mX8_readLink 99 [(0, .ref 8), (1, .int v1), (2, .int v2), (3, .int v3), (4, .int v4), (5, .int v5)] (r.toList ++ [.long (L 520), .ref 8]) I' L' Q)) : XS mX8_readLink 89 [(0, .ref 8), (1, .int v1), (2, .int v2), (3, .int v3), (4, .int v4), (5, .int v5)] [] I L Q := by
  refine x_aload_n 0 dX8_readLink_89 rfl rfl ?_
  refine x_dup dX8_readLink_90 rfl ?_
  refine xs_getl 520 dX8_readLink_91 fl_X8_34 sh_8 rfl rfl ?_
  refine x_iload_n 2 dX8_readLink_94 rfl rfl ?_
  refine x_iload_n 3 dX8_readLink_95 rfl rfl ?_
  exact xs_callS mX2_pairOf [.int v2, .int v3] [.long (L 520), .ref 8] 2 _ rfl dX8_readLink_96 ml_X8_88 qX2_pairOf rfl ⟨Nat.le_of_ble_eq_true rfl, Nat.le_of_ble_eq_true rfl⟩ ⟨rfl, rfl⟩ (Nat.le_of_ble_eq_true rfl) (Nat.le_of_ble_eq_true rfl) (K)
theorem bX8_readLink_99 {I : Nat → Nat → Int32} {L : Nat → Int64} {Q : Option Value → (Nat → Nat → Int32) → (Nat → Int64) → Prop} {v1 : Int32} {v2 : Int32} {v3 : Int32} {v4 : Int32} {v5 : Int32} {s1 : Int64} {s2 : Int64}  (K : XS mX8_keep 0 [(0, .ref 8), (1, .int v1), (2, .int v2), (3, .int v3), (4, .int v4), (5, .int v5)] [] I (x_upL L 520 (s1 ||| s2)) (fun r I' L' => XS mX8_readLink 114 [] (r.toList ++ []) I' L' Q)) : XS mX8_readLink 99 [(0, .ref 8), (1, .int v1), (2, .int v2), (3, .int v3), (4, .int v4), (5, .int v5)] [.long s2, .long s1, .ref 8] I L Q := by
  refine x_lor dX8_readLink_99 ?_
  refine xs_putl 520 dX8_readLink_100 fl_X8_34 sh_8 rfl rfl rfl ?_
  refine x_aload_n 0 dX8_readLink_103 rfl rfl ?_
  refine x_iload_n 1 dX8_readLink_104 rfl rfl ?_
  refine x_iload_n 2 dX8_readLink_105 rfl rfl ?_
  refine x_iload_n 3 dX8_readLink_106 rfl rfl ?_
  refine x_iload 4 dX8_readLink_107 rfl ?_
  refine x_iload 5 dX8_readLink_109 rfl ?_
  refine x_sub [] rfl ?_
  exact xs_callV mX8_keep [.int v1, .int v2, .int v3, .int v4, .int v5] [] 8 8 5 _ rfl dX8_readLink_111 ml_X8_84 qX8_keep rfl ⟨Nat.le_of_ble_eq_true rfl, Nat.le_of_ble_eq_true rfl⟩ ⟨rfl, rfl⟩ (Nat.le_of_ble_eq_true rfl) sh_8 (by decide) rfl (Nat.le_of_ble_eq_true rfl) (K)
theorem bX8_readLink_114 {I : Nat → Nat → Int32} {L : Nat → Int64} {Q : Option Value → (Nat → Nat → Int32) → (Nat → Int64) → Prop}   (K : Q (some (.int (1 : Int32))) I L) : XS mX8_readLink 114 [] [] I L Q := by
  refine x_iconst (v := (1 : Int32)) dX8_readLink_114 (by decide) ?_
  exact xs_iret dX8_readLink_115 rfl (x_nar _ (Or.inr rfl)) K
theorem bX8_isTooMany_0 {I : Nat → Nat → Int32} {L : Nat → Int64} {Q : Option Value → (Nat → Nat → Int32) → (Nat → Int64) → Prop} {v1 : Int64}  (K1 : (¬ (lg_cmp ((L 520) &&& v1) (0 : Int64)) = 0) → XS mX8_isTooMany 27 [] [] I L Q) (K2 : ((lg_cmp ((L 520) &&& v1) (0 : Int64)) = 0) → XS mX8_isTooMany 11 [(0, .ref 8)] [] I L Q) : XS mX8_isTooMany 0 [(0, .ref 8), (1, .long v1)] [] I L Q := by
  refine x_aload_n 0 dX8_isTooMany_0 rfl rfl ?_
  refine xs_getl 520 dX8_isTooMany_1 fl_X8_34 sh_8 rfl rfl ?_
  refine x_lload_n 1 dX8_isTooMany_4 rfl rfl ?_
  refine x_land dX8_isTooMany_5 ?_
  refine x_lconst (v := (0 : Int64)) dX8_isTooMany_6 (by decide) ?_
  refine x_lcmp dX8_isTooMany_7 ?_
  exact x_if_ne 27 dX8_isTooMany_8 (by decide) (fun h => x_sub [] rfl (K1 h)) (fun h => x_sub [0] rfl (K2 h))
theorem bX8_isTooMany_11 {I : Nat → Nat → Int32} {L : Nat → Int64} {Q : Option Value → (Nat → Nat → Int32) → (Nat → Int64) → Prop}   (K : XS mJ13_bitCount_95d88 0 [(0, .long (L 520))] [] I L (fun r I' L' => XS mX8_isTooMany 18 [] (r.toList ++ []) I' L' Q)) : XS mX8_isTooMany 11 [(0, .ref 8)] [] I L Q := by
  refine x_aload_n 0 dX8_isTooMany_11 rfl rfl ?_
  refine xs_getl 520 dX8_isTooMany_12 fl_X8_34 sh_8 rfl rfl ?_
  refine x_sub [] rfl ?_
  exact xs_callS mJ13_bitCount_95d88 [.long (L 520)] [] 1 _ rfl dX8_isTooMany_15 ml_X8_96 qJ13_bitCount_95d88 rfl ⟨Nat.le_of_ble_eq_true rfl, Nat.le_of_ble_eq_true rfl⟩ ⟨rfl, rfl⟩ (Nat.le_of_ble_eq_true rfl) (Nat.le_of_ble_eq_true rfl) (K)
theorem bX8_isTooMany_18 {I : Nat → Nat → Int32} {L : Nat → Int64} {Q : Option Value → (Nat → Nat → Int32) → (Nat → Int64) → Prop} {s0 : Int32}  (K1 : (s0 < (14 : Int32)) → XS mX8_isTooMany 27 [] [] I L Q) (K2 : (¬ s0 < (14 : Int32)) → XS mX8_isTooMany 23 [] [] I L Q) : XS mX8_isTooMany 18 [] [.int s0] I L Q := by
  refine x_bipush (v := (14 : Int32)) dX8_isTooMany_18 (by decide) ?_
  exact x_icmp_lt 27 dX8_isTooMany_20 (by decide) (fun h => K1 h) (fun h => K2 h)
theorem bX8_isTooMany_23 {I : Nat → Nat → Int32} {L : Nat → Int64} {Q : Option Value → (Nat → Nat → Int32) → (Nat → Int64) → Prop}   (K : XS mX8_isTooMany 28 [] [.int (1 : Int32)] I L Q) : XS mX8_isTooMany 23 [] [] I L Q := by
  refine x_iconst (v := (1 : Int32)) dX8_isTooMany_23 (by decide) ?_
  exact x_goto 28 dX8_isTooMany_24 (by decide) (K)
theorem bX8_isTooMany_27 {I : Nat → Nat → Int32} {L : Nat → Int64} {Q : Option Value → (Nat → Nat → Int32) → (Nat → Int64) → Prop}   (K : XS mX8_isTooMany 28 [] [.int (0 : Int32)] I L Q) : XS mX8_isTooMany 27 [] [] I L Q := by
  refine x_iconst (v := (0 : Int32)) dX8_isTooMany_27 (by decide) ?_
  exact K
theorem bX8_isTooMany_28 {I : Nat → Nat → Int32} {L : Nat → Int64} {Q : Option Value → (Nat → Nat → Int32) → (Nat → Int64) → Prop} {s0 : Int32} (hz1 : s0 = 0 ∨ s0 = 1) (K : Q (some (.int s0)) I L) : XS mX8_isTooMany 28 [] [.int s0] I L Q := by
  exact xs_iret dX8_isTooMany_28 rfl (x_nar _ hz1) K
theorem bX8_keep_0 {I : Nat → Nat → Int32} {L : Nat → Int64} {Q : Option Value → (Nat → Nat → Int32) → (Nat → Int64) → Prop} {v1 : Int32} {v2 : Int32} {v3 : Int32} {v4 : Int32} {v5 : Int32} (hb1 : vp_in (v1 * (4 : Int32)) 96) (hb2 : vp_in ((v1 * (4 : Int32)) + (1 : Int32)) 96) (hb3 : vp_in ((v1 * (4 : Int32)) + (2 : Int32)) 96) (hb4 : vp_in ((v1 * (4 : Int32)) + (3 : Int32)) 96) (K : Q none (x_up (x_up (x_up (x_up I 640 ((v1 * (4 : Int32)).toNatClampNeg) v2) 640 (((v1 * (4 : Int32)) + (1 : Int32)).toNatClampNeg) v3) 640 (((v1 * (4 : Int32)) + (2 : Int32)).toNatClampNeg) v4) 640 (((v1 * (4 : Int32)) + (3 : Int32)).toNatClampNeg) v5) L) : XS mX8_keep 0 [(0, .ref 8), (1, .int v1), (2, .int v2), (3, .int v3), (4, .int v4), (5, .int v5)] [] I L Q := by
  refine x_iload_n 1 dX8_keep_0 rfl rfl ?_
  refine x_iconst (v := (4 : Int32)) dX8_keep_1 (by decide) ?_
  refine x_imul dX8_keep_2 ?_
  refine x_istore [(0, .ref 8), (1, .int v1), (2, .int v2), (3, .int v3), (4, .int v4), (5, .int v5), (6, .int (v1 * (4 : Int32)))] dX8_keep_3 (Nat.le_of_ble_eq_true rfl) rfl ?_
  refine x_aload_n 0 dX8_keep_5 rfl rfl ?_
  refine xs_getr dX8_keep_6 fl_X8_22 sh_8 rfl rf_516 ?_
  refine x_iload 6 dX8_keep_9 rfl ?_
  refine x_iload_n 2 dX8_keep_11 rfl rfl ?_
  refine xs_iast 640 ((v1 * (4 : Int32)).toNatClampNeg) dX8_keep_12 sh_10 rfl rfl hb1 ?_
  refine x_aload_n 0 dX8_keep_13 rfl rfl ?_
  refine xs_getr dX8_keep_14 fl_X8_22 sh_8 rfl rf_516 ?_
  refine x_iload 6 dX8_keep_17 rfl ?_
  refine x_iconst (v := (1 : Int32)) dX8_keep_19 (by decide) ?_
  refine x_iadd dX8_keep_20 ?_
  refine x_iload_n 3 dX8_keep_21 rfl rfl ?_
  refine xs_iast 640 (((v1 * (4 : Int32)) + (1 : Int32)).toNatClampNeg) dX8_keep_22 sh_10 rfl rfl hb2 ?_
  refine x_aload_n 0 dX8_keep_23 rfl rfl ?_
  refine xs_getr dX8_keep_24 fl_X8_22 sh_8 rfl rf_516 ?_
  refine x_iload 6 dX8_keep_27 rfl ?_
  refine x_iconst (v := (2 : Int32)) dX8_keep_29 (by decide) ?_
  refine x_iadd dX8_keep_30 ?_
  refine x_iload 4 dX8_keep_31 rfl ?_
  refine xs_iast 640 (((v1 * (4 : Int32)) + (2 : Int32)).toNatClampNeg) dX8_keep_33 sh_10 rfl rfl hb3 ?_
  refine x_aload_n 0 dX8_keep_34 rfl rfl ?_
  refine xs_getr dX8_keep_35 fl_X8_22 sh_8 rfl rf_516 ?_
  refine x_iload 6 dX8_keep_38 rfl ?_
  refine x_iconst (v := (3 : Int32)) dX8_keep_40 (by decide) ?_
  refine x_iadd dX8_keep_41 ?_
  refine x_iload 5 dX8_keep_42 rfl ?_
  refine xs_iast 640 (((v1 * (4 : Int32)) + (3 : Int32)).toNatClampNeg) dX8_keep_44 sh_10 rfl rfl hb4 ?_
  exact xs_end dX8_keep_45 rfl K
theorem bX8_readSign_0 {I : Nat → Nat → Int32} {L : Nat → Int64} {Q : Option Value → (Nat → Nat → Int32) → (Nat → Int64) → Prop} {v1 : Int32}  (K : XS mX8_readToken 0 [(0, .ref 8)] [] I L (fun r I' L' => XS mX8_readSign 4 [(0, .ref 8), (1, .int v1)] (r.toList ++ []) I' L' Q)) : XS mX8_readSign 0 [(0, .ref 8), (1, .int v1)] [] I L Q := by
  refine x_aload_n 0 dX8_readSign_0 rfl rfl ?_
  exact xs_callV mX8_readToken [] [] 8 8 0 _ rfl dX8_readSign_1 ml_X8_65 qX8_readToken rfl ⟨Nat.le_of_ble_eq_true rfl, Nat.le_of_ble_eq_true rfl⟩ ⟨rfl, rfl⟩ (Nat.le_of_ble_eq_true rfl) sh_8 (by decide) rfl (Nat.le_of_ble_eq_true rfl) (K)
theorem bX8_readSign_4 {I : Nat → Nat → Int32} {L : Nat → Int64} {Q : Option Value → (Nat → Nat → Int32) → (Nat → Int64) → Prop} {v1 : Int32}  (K1 : (¬ ((I 518 0) - (I 517 0)) = (1 : Int32)) → XS mX8_readSign 34 [] [] I L Q) (K2 : (((I 518 0) - (I 517 0)) = (1 : Int32)) → XS mX8_readSign 17 [(0, .ref 8), (1, .int v1)] [] I L Q) : XS mX8_readSign 4 [(0, .ref 8), (1, .int v1)] [] I L Q := by
  refine x_aload_n 0 dX8_readSign_4 rfl rfl ?_
  refine xs_geti 518 dX8_readSign_5 fl_X8_28 sh_8 rfl rfl ?_
  refine x_aload_n 0 dX8_readSign_8 rfl rfl ?_
  refine xs_geti 517 dX8_readSign_9 fl_X8_25 sh_8 rfl rfl ?_
  refine x_isub dX8_readSign_12 ?_
  refine x_iconst (v := (1 : Int32)) dX8_readSign_13 (by decide) ?_
  exact x_icmp_ne 34 dX8_readSign_14 (by decide) (fun h => x_sub [] rfl (K1 h)) (fun h => K2 h)
theorem bX8_readSign_17 {I : Nat → Nat → Int32} {L : Nat → Int64} {Q : Option Value → (Nat → Nat → Int32) → (Nat → Int64) → Prop} {v1 : Int32} (hb1 : vp_in (I 517 0) 200) (K1 : (¬ (I 576 ((I 517 0).toNatClampNeg)) = v1) → XS mX8_readSign 34 [] [] I L Q) (K2 : ((I 576 ((I 517 0).toNatClampNeg)) = v1) → XS mX8_readSign 30 [] [] I L Q) : XS mX8_readSign 17 [(0, .ref 8), (1, .int v1)] [] I L Q := by
  refine x_aload_n 0 dX8_readSign_17 rfl rfl ?_
  refine xs_getr dX8_readSign_18 fl_X8_9 sh_8 rfl rf_513 ?_
  refine x_aload_n 0 dX8_readSign_21 rfl rfl ?_
  refine xs_geti 517 dX8_readSign_22 fl_X8_25 sh_8 rfl rfl ?_
  refine xs_iald 576 ((I 517 0).toNatClampNeg) dX8_readSign_25 sh_9 rfl rfl hb1 ?_
  refine x_iload_n 1 dX8_readSign_26 rfl rfl ?_
  exact x_icmp_ne 34 dX8_readSign_27 (by decide) (fun h => x_sub [] rfl (K1 h)) (fun h => x_sub [] rfl (K2 h))
theorem bX8_readSign_30 {I : Nat → Nat → Int32} {L : Nat → Int64} {Q : Option Value → (Nat → Nat → Int32) → (Nat → Int64) → Prop}   (K : XS mX8_readSign 35 [] [.int (1 : Int32)] I L Q) : XS mX8_readSign 30 [] [] I L Q := by
  refine x_iconst (v := (1 : Int32)) dX8_readSign_30 (by decide) ?_
  exact x_goto 35 dX8_readSign_31 (by decide) (K)
theorem bX8_readSign_34 {I : Nat → Nat → Int32} {L : Nat → Int64} {Q : Option Value → (Nat → Nat → Int32) → (Nat → Int64) → Prop}   (K : XS mX8_readSign 35 [] [.int (0 : Int32)] I L Q) : XS mX8_readSign 34 [] [] I L Q := by
  refine x_iconst (v := (0 : Int32)) dX8_readSign_34 (by decide) ?_
  exact K
theorem bX8_readSign_35 {I : Nat → Nat → Int32} {L : Nat → Int64} {Q : Option Value → (Nat → Nat → Int32) → (Nat → Int64) → Prop} {s0 : Int32} (hz1 : s0 = 0 ∨ s0 = 1) (K : Q (some (.int s0)) I L) : XS mX8_readSign 35 [] [.int s0] I L Q := by
  exact xs_iret dX8_readSign_35 rfl (x_nar _ hz1) K
theorem bX8_readNumber_0 {I : Nat → Nat → Int32} {L : Nat → Int64} {Q : Option Value → (Nat → Nat → Int32) → (Nat → Int64) → Prop} {v1 : Int32} {v2 : Int32}  (K : XS mX8_readToken 0 [(0, .ref 8)] [] I L (fun r I' L' => XS mX8_readNumber 4 [(0, .ref 8), (1, .int v1), (2, .int v2)] (r.toList ++ []) I' L' Q)) : XS mX8_readNumber 0 [(0, .ref 8), (1, .int v1), (2, .int v2)] [] I L Q := by
  refine x_aload_n 0 dX8_readNumber_0 rfl rfl ?_
  exact xs_callV mX8_readToken [] [] 8 8 0 _ rfl dX8_readNumber_1 ml_X8_65 qX8_readToken rfl ⟨Nat.le_of_ble_eq_true rfl, Nat.le_of_ble_eq_true rfl⟩ ⟨rfl, rfl⟩ (Nat.le_of_ble_eq_true rfl) sh_8 (by decide) rfl (Nat.le_of_ble_eq_true rfl) (K)
theorem bX8_readNumber_4 {I : Nat → Nat → Int32} {L : Nat → Int64} {Q : Option Value → (Nat → Nat → Int32) → (Nat → Int64) → Prop} {v1 : Int32} {v2 : Int32}  (K1 : (((I 518 0) - (I 517 0)) = (1 : Int32)) → XS mX8_readNumber 19 [(0, .ref 8), (1, .int v1), (2, .int v2)] [] I L Q) (K2 : (¬ ((I 518 0) - (I 517 0)) = (1 : Int32)) → XS mX8_readNumber 17 [] [] I L Q) : XS mX8_readNumber 4 [(0, .ref 8), (1, .int v1), (2, .int v2)] [] I L Q := by
  refine x_aload_n 0 dX8_readNumber_4 rfl rfl ?_
  refine xs_geti 518 dX8_readNumber_5 fl_X8_28 sh_8 rfl rfl ?_
  refine x_aload_n 0 dX8_readNumber_8 rfl rfl ?_
  refine xs_geti 517 dX8_readNumber_9 fl_X8_25 sh_8 rfl rfl ?_
  refine x_isub dX8_readNumber_12 ?_
  refine x_iconst (v := (1 : Int32)) dX8_readNumber_13 (by decide) ?_
  exact x_icmp_eq 19 dX8_readNumber_14 (by decide) (fun h => K1 h) (fun h => x_sub [] rfl (K2 h))
theorem bX8_readNumber_17 {I : Nat → Nat → Int32} {L : Nat → Int64} {Q : Option Value → (Nat → Nat → Int32) → (Nat → Int64) → Prop}   (K : Q (some (.int (-1 : Int32))) I L) : XS mX8_readNumber 17 [] [] I L Q := by
  refine x_iconst (v := (-1 : Int32)) dX8_readNumber_17 (by decide) ?_
  exact xs_iret dX8_readNumber_18 rfl rfl K
theorem bX8_readNumber_19 {I : Nat → Nat → Int32} {L : Nat → Int64} {Q : Option Value → (Nat → Nat → Int32) → (Nat → Int64) → Prop} {v1 : Int32} {v2 : Int32} (hb1 : vp_in (I 517 0) 200) (K1 : (((I 576 ((I 517 0).toNatClampNeg)) - (48 : Int32)) < v1) → XS mX8_readNumber 46 [] [] I L Q) (K2 : (¬ ((I 576 ((I 517 0).toNatClampNeg)) - (48 : Int32)) < v1) → XS mX8_readNumber 37 [(2, .int v2), (3, .int ((I 576 ((I 517 0).toNatClampNeg)) - (48 : Int32)))] [] I L Q) : XS mX8_readNumber 19 [(0, .ref 8), (1, .int v1), (2, .int v2)] [] I L Q := by
  refine x_aload_n 0 dX8_readNumber_19 rfl rfl ?_
  refine xs_getr dX8_readNumber_20 fl_X8_9 sh_8 rfl rf_513 ?_
  refine x_aload_n 0 dX8_readNumber_23 rfl rfl ?_
  refine xs_geti 517 dX8_readNumber_24 fl_X8_25 sh_8 rfl rfl ?_
  refine xs_iald 576 ((I 517 0).toNatClampNeg) dX8_readNumber_27 sh_9 rfl rfl hb1 ?_
  refine x_bipush (v := (48 : Int32)) dX8_readNumber_28 (by decide) ?_
  refine x_isub dX8_readNumber_30 ?_
  refine x_istore_n [(0, .ref 8), (1, .int v1), (2, .int v2), (3, .int ((I 576 ((I 517 0).toNatClampNeg)) - (48 : Int32)))] dX8_readNumber_31 rfl (Nat.le_of_ble_eq_true rfl) rfl ?_
  refine x_iload_n 3 dX8_readNumber_32 rfl rfl ?_
  refine x_iload_n 1 dX8_readNumber_33 rfl rfl ?_
  exact x_icmp_lt 46 dX8_readNumber_34 (by decide) (fun h => x_sub [] rfl (K1 h)) (fun h => x_sub [2, 3] rfl (K2 h))
theorem bX8_readNumber_37 {I : Nat → Nat → Int32} {L : Nat → Int64} {Q : Option Value → (Nat → Nat → Int32) → (Nat → Int64) → Prop} {v2 : Int32} {v3 : Int32}  (K1 : (v2 < v3) → XS mX8_readNumber 46 [] [] I L Q) (K2 : (¬ v2 < v3) → XS mX8_readNumber 42 [(3, .int v3)] [] I L Q) : XS mX8_readNumber 37 [(2, .int v2), (3, .int v3)] [] I L Q := by
  refine x_iload_n 1 dX8_readNumber_37 rfl rfl ?_
  refine x_iload_n 0 dX8_readNumber_38 rfl rfl ?_
  exact x_icmp_gt 46 dX8_readNumber_39 (by decide) (fun h => x_sub [] rfl (K1 h)) (fun h => x_sub [1] rfl (K2 h))
theorem bX8_readNumber_42 {I : Nat → Nat → Int32} {L : Nat → Int64} {Q : Option Value → (Nat → Nat → Int32) → (Nat → Int64) → Prop} {v3 : Int32}  (K : XS mX8_readNumber 47 [] [.int v3] I L Q) : XS mX8_readNumber 42 [(3, .int v3)] [] I L Q := by
  refine x_iload_n 0 dX8_readNumber_42 rfl rfl ?_
  exact x_goto 47 dX8_readNumber_43 (by decide) (x_sub [] rfl (K))
theorem bX8_readNumber_46 {I : Nat → Nat → Int32} {L : Nat → Int64} {Q : Option Value → (Nat → Nat → Int32) → (Nat → Int64) → Prop}   (K : XS mX8_readNumber 47 [] [.int (-1 : Int32)] I L Q) : XS mX8_readNumber 46 [] [] I L Q := by
  refine x_iconst (v := (-1 : Int32)) dX8_readNumber_46 (by decide) ?_
  exact K
theorem bX8_readNumber_47 {I : Nat → Nat → Int32} {L : Nat → Int64} {Q : Option Value → (Nat → Nat → Int32) → (Nat → Int64) → Prop} {s0 : Int32}  (K : Q (some (.int s0)) I L) : XS mX8_readNumber 47 [] [.int s0] I L Q := by
  exact xs_iret dX8_readNumber_47 rfl rfl K
theorem bX8_isWord_0 {I : Nat → Nat → Int32} {L : Nat → Int64} {Q : Option Value → (Nat → Nat → Int32) → (Nat → Int64) → Prop} {i : Nat} (hi : i < 2) (K : XS mJ0_length_8abf5 0 [(0, .ref (1000000 + i))] [] I L (fun r I' L' => XS mX8_isWord 13 [(0, .ref 8), (1, .ref (1000000 + i))] (r.toList ++ [.int ((I 518 0) - (I 517 0))]) I' L' Q)) : XS mX8_isWord 0 [(0, .ref 8), (1, .ref (1000000 + i))] [] I L Q := by
  refine x_aload_n 0 dX8_isWord_0 rfl rfl ?_
  refine xs_geti 518 dX8_isWord_1 fl_X8_28 sh_8 rfl rfl ?_
  refine x_aload_n 0 dX8_isWord_4 rfl rfl ?_
  refine xs_geti 517 dX8_isWord_5 fl_X8_25 sh_8 rfl rfl ?_
  refine x_isub dX8_isWord_8 ?_
  refine x_aload_n 1 dX8_isWord_9 rfl rfl ?_
  exact xs_callT mJ0_length_8abf5 [] [.int ((I 518 0) - (I 517 0))] i 0 _ hi rfl dX8_isWord_10 ml_X8_102 qJ0_length_8abf5 rfl ⟨Nat.le_of_ble_eq_true rfl, Nat.le_of_ble_eq_true rfl⟩ ⟨rfl, rfl⟩ (Nat.le_of_ble_eq_true rfl) rfl (Nat.le_of_ble_eq_true rfl) (K)
theorem bX8_isWord_13 {I : Nat → Nat → Int32} {L : Nat → Int64} {Q : Option Value → (Nat → Nat → Int32) → (Nat → Int64) → Prop} {i : Nat} {s0 : Int32} {s1 : Int32} (hi : i < 2) (K1 : (s0 = s1) → XS mX8_isWord 18 [(0, .ref 8), (1, .ref (1000000 + i))] [] I L Q) (K2 : (¬ s0 = s1) → XS mX8_isWord 16 [] [] I L Q) : XS mX8_isWord 13 [(0, .ref 8), (1, .ref (1000000 + i))] [.int s1, .int s0] I L Q := by
  exact x_icmp_eq 18 dX8_isWord_13 (by decide) (fun h => K1 h) (fun h => x_sub [] rfl (K2 h))
theorem bX8_isWord_16 {I : Nat → Nat → Int32} {L : Nat → Int64} {Q : Option Value → (Nat → Nat → Int32) → (Nat → Int64) → Prop}   (K : Q (some (.int (0 : Int32))) I L) : XS mX8_isWord 16 [] [] I L Q := by
  refine x_iconst (v := (0 : Int32)) dX8_isWord_16 (by decide) ?_
  exact xs_iret dX8_isWord_17 rfl (x_nar _ (Or.inl rfl)) K
theorem bX8_isWord_18 {I : Nat → Nat → Int32} {L : Nat → Int64} {Q : Option Value → (Nat → Nat → Int32) → (Nat → Int64) → Prop} {i : Nat} (hi : i < 2) (K : XS mX8_isWord 20 [(0, .ref 8), (1, .ref (1000000 + i)), (2, .int (0 : Int32))] [] I L Q) : XS mX8_isWord 18 [(0, .ref 8), (1, .ref (1000000 + i))] [] I L Q := by
  refine x_iconst (v := (0 : Int32)) dX8_isWord_18 (by decide) ?_
  refine x_istore_n [(0, .ref 8), (1, .ref (1000000 + i)), (2, .int (0 : Int32))] dX8_isWord_19 rfl (Nat.le_of_ble_eq_true rfl) rfl ?_
  exact K
theorem bX8_isWord_20 {I : Nat → Nat → Int32} {L : Nat → Int64} {Q : Option Value → (Nat → Nat → Int32) → (Nat → Int64) → Prop} {i : Nat} {v2 : Int32} (hi : i < 2) (K : XS mJ0_length_8abf5 0 [(0, .ref (1000000 + i))] [] I L (fun r I' L' => XS mX8_isWord 25 [(0, .ref 8), (1, .ref (1000000 + i)), (2, .int v2)] (r.toList ++ [.int v2]) I' L' Q)) : XS mX8_isWord 20 [(0, .ref 8), (1, .ref (1000000 + i)), (2, .int v2)] [] I L Q := by
  refine x_iload_n 2 dX8_isWord_20 rfl rfl ?_
  refine x_aload_n 1 dX8_isWord_21 rfl rfl ?_
  exact xs_callT mJ0_length_8abf5 [] [.int v2] i 0 _ hi rfl dX8_isWord_22 ml_X8_102 qJ0_length_8abf5 rfl ⟨Nat.le_of_ble_eq_true rfl, Nat.le_of_ble_eq_true rfl⟩ ⟨rfl, rfl⟩ (Nat.le_of_ble_eq_true rfl) rfl (Nat.le_of_ble_eq_true rfl) (K)
theorem bX8_isWord_25 {I : Nat → Nat → Int32} {L : Nat → Int64} {Q : Option Value → (Nat → Nat → Int32) → (Nat → Int64) → Prop} {i : Nat} {v2 : Int32} {s0 : Int32} {s1 : Int32} (hi : i < 2) (K1 : (s1 ≤ s0) → XS mX8_isWord 55 [] [] I L Q) (K2 : (¬ s1 ≤ s0) → XS mX8_isWord 28 [(0, .ref 8), (1, .ref (1000000 + i)), (2, .int v2)] [] I L Q) : XS mX8_isWord 25 [(0, .ref 8), (1, .ref (1000000 + i)), (2, .int v2)] [.int s1, .int s0] I L Q := by
  exact x_icmp_ge 55 dX8_isWord_25 (by decide) (fun h => x_sub [] rfl (K1 h)) (fun h => K2 h)
theorem bX8_isWord_28 {I : Nat → Nat → Int32} {L : Nat → Int64} {Q : Option Value → (Nat → Nat → Int32) → (Nat → Int64) → Prop} {i : Nat} {v2 : Int32} (hi : i < 2) (hb1 : vp_in ((I 517 0) + v2) 200) (K : XS mJ0_charAt_5068e 0 [(0, .ref (1000000 + i)), (1, .int v2)] [] I L (fun r I' L' => XS mX8_isWord 44 [(0, .ref 8), (1, .ref (1000000 + i)), (2, .int v2)] (r.toList ++ [.int (I 576 (((I 517 0) + v2).toNatClampNeg))]) I' L' Q)) : XS mX8_isWord 28 [(0, .ref 8), (1, .ref (1000000 + i)), (2, .int v2)] [] I L Q := by
  refine x_aload_n 0 dX8_isWord_28 rfl rfl ?_
  refine xs_getr dX8_isWord_29 fl_X8_9 sh_8 rfl rf_513 ?_
  refine x_aload_n 0 dX8_isWord_32 rfl rfl ?_
  refine xs_geti 517 dX8_isWord_33 fl_X8_25 sh_8 rfl rfl ?_
  refine x_iload_n 2 dX8_isWord_36 rfl rfl ?_
  refine x_iadd dX8_isWord_37 ?_
  refine xs_iald 576 (((I 517 0) + v2).toNatClampNeg) dX8_isWord_38 sh_9 rfl rfl hb1 ?_
  refine x_aload_n 1 dX8_isWord_39 rfl rfl ?_
  refine x_iload_n 2 dX8_isWord_40 rfl rfl ?_
  exact xs_callT mJ0_charAt_5068e [.int v2] [.int (I 576 (((I 517 0) + v2).toNatClampNeg))] i 1 _ hi rfl dX8_isWord_41 ml_X8_107 qJ0_charAt_5068e rfl ⟨Nat.le_of_ble_eq_true rfl, Nat.le_of_ble_eq_true rfl⟩ ⟨rfl, rfl⟩ (Nat.le_of_ble_eq_true rfl) rfl (Nat.le_of_ble_eq_true rfl) (K)
theorem bX8_isWord_44 {I : Nat → Nat → Int32} {L : Nat → Int64} {Q : Option Value → (Nat → Nat → Int32) → (Nat → Int64) → Prop} {i : Nat} {v2 : Int32} {s0 : Int32} {s1 : Int32} (hi : i < 2) (K1 : (s0 = s1) → XS mX8_isWord 49 [(0, .ref 8), (1, .ref (1000000 + i)), (2, .int v2)] [] I L Q) (K2 : (¬ s0 = s1) → XS mX8_isWord 47 [] [] I L Q) : XS mX8_isWord 44 [(0, .ref 8), (1, .ref (1000000 + i)), (2, .int v2)] [.int s1, .int s0] I L Q := by
  exact x_icmp_eq 49 dX8_isWord_44 (by decide) (fun h => K1 h) (fun h => x_sub [] rfl (K2 h))
theorem bX8_isWord_47 {I : Nat → Nat → Int32} {L : Nat → Int64} {Q : Option Value → (Nat → Nat → Int32) → (Nat → Int64) → Prop}   (K : Q (some (.int (0 : Int32))) I L) : XS mX8_isWord 47 [] [] I L Q := by
  refine x_iconst (v := (0 : Int32)) dX8_isWord_47 (by decide) ?_
  exact xs_iret dX8_isWord_48 rfl (x_nar _ (Or.inl rfl)) K
theorem bX8_isWord_49 {I : Nat → Nat → Int32} {L : Nat → Int64} {Q : Option Value → (Nat → Nat → Int32) → (Nat → Int64) → Prop} {i : Nat} {v2 : Int32} (hi : i < 2) (K : XS mX8_isWord 20 [(0, .ref 8), (1, .ref (1000000 + i)), (2, .int (v2 + (1 : Int32)))] [] I L Q) : XS mX8_isWord 49 [(0, .ref 8), (1, .ref (1000000 + i)), (2, .int v2)] [] I L Q := by
  refine x_iinc 2 (v2 + (1 : Int32)) [(0, .ref 8), (1, .ref (1000000 + i)), (2, .int (v2 + (1 : Int32)))] dX8_isWord_49 rfl rfl (Nat.le_of_ble_eq_true rfl) rfl ?_
  exact x_goto 20 dX8_isWord_52 (by decide) (K)
theorem bX8_isWord_55 {I : Nat → Nat → Int32} {L : Nat → Int64} {Q : Option Value → (Nat → Nat → Int32) → (Nat → Int64) → Prop}   (K : Q (some (.int (1 : Int32))) I L) : XS mX8_isWord 55 [] [] I L Q := by
  refine x_iconst (v := (1 : Int32)) dX8_isWord_55 (by decide) ?_
  exact xs_iret dX8_isWord_56 rfl (x_nar _ (Or.inr rfl)) K
theorem bX8_readToken_0 {I : Nat → Nat → Int32} {L : Nat → Int64} {Q : Option Value → (Nat → Nat → Int32) → (Nat → Int64) → Prop}   (K : XS mX8_skipBlanks 0 [(0, .ref 8), (1, .int (I 518 0))] [] I L (fun r I' L' => XS mX8_readToken 9 [(0, .ref 8)] (r.toList ++ [.ref 8]) I' L' Q)) : XS mX8_readToken 0 [(0, .ref 8)] [] I L Q := by
  refine x_aload_n 0 dX8_readToken_0 rfl rfl ?_
  refine x_aload_n 0 dX8_readToken_1 rfl rfl ?_
  refine x_aload_n 0 dX8_readToken_2 rfl rfl ?_
  refine xs_geti 518 dX8_readToken_3 fl_X8_28 sh_8 rfl rfl ?_
  exact xs_callV mX8_skipBlanks [.int (I 518 0)] [.ref 8] 8 8 1 _ rfl dX8_readToken_6 ml_X8_61 qX8_skipBlanks rfl ⟨Nat.le_of_ble_eq_true rfl, Nat.le_of_ble_eq_true rfl⟩ ⟨rfl, rfl⟩ (Nat.le_of_ble_eq_true rfl) sh_8 (by decide) rfl (Nat.le_of_ble_eq_true rfl) (K)
theorem bX8_readToken_9 {I : Nat → Nat → Int32} {L : Nat → Int64} {Q : Option Value → (Nat → Nat → Int32) → (Nat → Int64) → Prop} {s1 : Int32}  (K1 : (((x_up (x_up I 517 0 s1) 518 0 ((x_up I 517 0 s1) 517 0)) 517 0) < ((x_up (x_up I 517 0 s1) 518 0 ((x_up I 517 0 s1) 517 0)) 514 0)) → XS mX8_readToken 32 [(0, .ref 8)] [] (x_up (x_up I 517 0 s1) 518 0 ((x_up I 517 0 s1) 517 0)) L Q) (K2 : (¬ ((x_up (x_up I 517 0 s1) 518 0 ((x_up I 517 0 s1) 517 0)) 517 0) < ((x_up (x_up I 517 0 s1) 518 0 ((x_up I 517 0 s1) 517 0)) 514 0)) → XS mX8_readToken 31 [] [] (x_up (x_up I 517 0 s1) 518 0 ((x_up I 517 0 s1) 517 0)) L Q) : XS mX8_readToken 9 [(0, .ref 8)] [.int s1, .ref 8] I L Q := by
  refine xs_puti 517 dX8_readToken_9 fl_X8_25 sh_8 rfl rfl rfl ?_
  refine x_aload_n 0 dX8_readToken_12 rfl rfl ?_
  refine x_aload_n 0 dX8_readToken_13 rfl rfl ?_
  refine xs_geti 517 dX8_readToken_14 fl_X8_25 sh_8 rfl rfl ?_
  refine xs_puti 518 dX8_readToken_17 fl_X8_28 sh_8 rfl rfl rfl ?_
  refine x_aload_n 0 dX8_readToken_20 rfl rfl ?_
  refine xs_geti 517 dX8_readToken_21 fl_X8_25 sh_8 rfl rfl ?_
  refine x_aload_n 0 dX8_readToken_24 rfl rfl ?_
  refine xs_geti 514 dX8_readToken_25 fl_X8_15 sh_8 rfl rfl ?_
  exact x_icmp_lt 32 dX8_readToken_28 (by decide) (fun h => K1 h) (fun h => x_sub [] rfl (K2 h))
theorem bX8_readToken_31 {I : Nat → Nat → Int32} {L : Nat → Int64} {Q : Option Value → (Nat → Nat → Int32) → (Nat → Int64) → Prop}   (K : Q none I L) : XS mX8_readToken 31 [] [] I L Q := by
  exact xs_end dX8_readToken_31 rfl K
theorem bX8_readToken_32 {I : Nat → Nat → Int32} {L : Nat → Int64} {Q : Option Value → (Nat → Nat → Int32) → (Nat → Int64) → Prop}  (hb1 : vp_in (I 517 0) 200) (K : XS mX8_rowOf 0 [(0, .int (I 576 ((I 517 0).toNatClampNeg)))] [] I L (fun r I' L' => XS mX8_readToken 44 [(0, .ref 8)] (r.toList ++ []) I' L' Q)) : XS mX8_readToken 32 [(0, .ref 8)] [] I L Q := by
  refine x_aload_n 0 dX8_readToken_32 rfl rfl ?_
  refine xs_getr dX8_readToken_33 fl_X8_9 sh_8 rfl rf_513 ?_
  refine x_aload_n 0 dX8_readToken_36 rfl rfl ?_
  refine xs_geti 517 dX8_readToken_37 fl_X8_25 sh_8 rfl rfl ?_
  refine xs_iald 576 ((I 517 0).toNatClampNeg) dX8_readToken_40 sh_9 rfl rfl hb1 ?_
  exact xs_callS mX8_rowOf [.int (I 576 ((I 517 0).toNatClampNeg))] [] 1 _ rfl dX8_readToken_41 ml_X8_111 qX8_rowOf rfl ⟨Nat.le_of_ble_eq_true rfl, Nat.le_of_ble_eq_true rfl⟩ ⟨rfl, rfl⟩ (Nat.le_of_ble_eq_true rfl) (Nat.le_of_ble_eq_true rfl) (K)
theorem bX8_readToken_44 {I : Nat → Nat → Int32} {L : Nat → Int64} {Q : Option Value → (Nat → Nat → Int32) → (Nat → Int64) → Prop} {s0 : Int32}  (K : XS mX8_readToken 55 [(0, .ref 8), (1, .int s0)] [] (x_up I 518 0 ((I 518 0) + (1 : Int32))) L Q) : XS mX8_readToken 44 [(0, .ref 8)] [.int s0] I L Q := by
  refine x_istore_n [(0, .ref 8), (1, .int s0)] dX8_readToken_44 rfl (Nat.le_of_ble_eq_true rfl) rfl ?_
  refine x_aload_n 0 dX8_readToken_45 rfl rfl ?_
  refine x_dup dX8_readToken_46 rfl ?_
  refine xs_geti 518 dX8_readToken_47 fl_X8_28 sh_8 rfl rfl ?_
  refine x_iconst (v := (1 : Int32)) dX8_readToken_50 (by decide) ?_
  refine x_iadd dX8_readToken_51 ?_
  refine xs_puti 518 dX8_readToken_52 fl_X8_28 sh_8 rfl rfl rfl ?_
  exact K
theorem bX8_readToken_55 {I : Nat → Nat → Int32} {L : Nat → Int64} {Q : Option Value → (Nat → Nat → Int32) → (Nat → Int64) → Prop} {v1 : Int32}  (K1 : (v1 = 0) → XS mX8_readToken 99 [] [] I L Q) (K2 : (¬ v1 = 0) → XS mX8_readToken 59 [(0, .ref 8), (1, .int v1)] [] I L Q) : XS mX8_readToken 55 [(0, .ref 8), (1, .int v1)] [] I L Q := by
  refine x_iload_n 1 dX8_readToken_55 rfl rfl ?_
  exact x_if_eq 99 dX8_readToken_56 (by decide) (fun h => x_sub [] rfl (K1 h)) (fun h => K2 h)
theorem bX8_readToken_59 {I : Nat → Nat → Int32} {L : Nat → Int64} {Q : Option Value → (Nat → Nat → Int32) → (Nat → Int64) → Prop} {v1 : Int32}  (K1 : ((I 514 0) ≤ (I 518 0)) → XS mX8_readToken 99 [] [] I L Q) (K2 : (¬ (I 514 0) ≤ (I 518 0)) → XS mX8_readToken 70 [(0, .ref 8), (1, .int v1)] [] I L Q) : XS mX8_readToken 59 [(0, .ref 8), (1, .int v1)] [] I L Q := by
  refine x_aload_n 0 dX8_readToken_59 rfl rfl ?_
  refine xs_geti 518 dX8_readToken_60 fl_X8_28 sh_8 rfl rfl ?_
  refine x_aload_n 0 dX8_readToken_63 rfl rfl ?_
  refine xs_geti 514 dX8_readToken_64 fl_X8_15 sh_8 rfl rfl ?_
  exact x_icmp_ge 99 dX8_readToken_67 (by decide) (fun h => x_sub [] rfl (K1 h)) (fun h => K2 h)
theorem bX8_readToken_70 {I : Nat → Nat → Int32} {L : Nat → Int64} {Q : Option Value → (Nat → Nat → Int32) → (Nat → Int64) → Prop} {v1 : Int32} (hb1 : vp_in (I 518 0) 200) (K : XS mX8_rowOf 0 [(0, .int (I 576 ((I 518 0).toNatClampNeg)))] [] I L (fun r I' L' => XS mX8_readToken 82 [(0, .ref 8), (1, .int v1)] (r.toList ++ []) I' L' Q)) : XS mX8_readToken 70 [(0, .ref 8), (1, .int v1)] [] I L Q := by
  refine x_aload_n 0 dX8_readToken_70 rfl rfl ?_
  refine xs_getr dX8_readToken_71 fl_X8_9 sh_8 rfl rf_513 ?_
  refine x_aload_n 0 dX8_readToken_74 rfl rfl ?_
  refine xs_geti 518 dX8_readToken_75 fl_X8_28 sh_8 rfl rfl ?_
  refine xs_iald 576 ((I 518 0).toNatClampNeg) dX8_readToken_78 sh_9 rfl rfl hb1 ?_
  exact xs_callS mX8_rowOf [.int (I 576 ((I 518 0).toNatClampNeg))] [] 1 _ rfl dX8_readToken_79 ml_X8_111 qX8_rowOf rfl ⟨Nat.le_of_ble_eq_true rfl, Nat.le_of_ble_eq_true rfl⟩ ⟨rfl, rfl⟩ (Nat.le_of_ble_eq_true rfl) (Nat.le_of_ble_eq_true rfl) (K)
theorem bX8_readToken_82 {I : Nat → Nat → Int32} {L : Nat → Int64} {Q : Option Value → (Nat → Nat → Int32) → (Nat → Int64) → Prop} {v1 : Int32} {s0 : Int32}  (K1 : (¬ s0 = v1) → XS mX8_readToken 99 [] [] I L Q) (K2 : (s0 = v1) → XS mX8_readToken 86 [(0, .ref 8), (1, .int v1)] [] I L Q) : XS mX8_readToken 82 [(0, .ref 8), (1, .int v1)] [.int s0] I L Q := by
  refine x_iload_n 1 dX8_readToken_82 rfl rfl ?_
  exact x_icmp_ne 99 dX8_readToken_83 (by decide) (fun h => x_sub [] rfl (K1 h)) (fun h => K2 h)
theorem bX8_readToken_86 {I : Nat → Nat → Int32} {L : Nat → Int64} {Q : Option Value → (Nat → Nat → Int32) → (Nat → Int64) → Prop} {v1 : Int32}  (K : XS mX8_readToken 55 [(0, .ref 8), (1, .int v1)] [] (x_up I 518 0 ((I 518 0) + (1 : Int32))) L Q) : XS mX8_readToken 86 [(0, .ref 8), (1, .int v1)] [] I L Q := by
  refine x_aload_n 0 dX8_readToken_86 rfl rfl ?_
  refine x_dup dX8_readToken_87 rfl ?_
  refine xs_geti 518 dX8_readToken_88 fl_X8_28 sh_8 rfl rfl ?_
  refine x_iconst (v := (1 : Int32)) dX8_readToken_91 (by decide) ?_
  refine x_iadd dX8_readToken_92 ?_
  refine xs_puti 518 dX8_readToken_93 fl_X8_28 sh_8 rfl rfl rfl ?_
  exact x_goto 55 dX8_readToken_96 (by decide) (K)
theorem bX8_readToken_99 {I : Nat → Nat → Int32} {L : Nat → Int64} {Q : Option Value → (Nat → Nat → Int32) → (Nat → Int64) → Prop}   (K : Q none I L) : XS mX8_readToken 99 [] [] I L Q := by
  exact xs_end dX8_readToken_99 rfl K
theorem bX8_skipBlanks_0 {I : Nat → Nat → Int32} {L : Nat → Int64} {Q : Option Value → (Nat → Nat → Int32) → (Nat → Int64) → Prop} {v1 : Int32}  (K : XS mX8_skipBlanks 2 [(0, .ref 8), (2, .int v1)] [] I L Q) : XS mX8_skipBlanks 0 [(0, .ref 8), (1, .int v1)] [] I L Q := by
  refine x_iload_n 1 dX8_skipBlanks_0 rfl rfl ?_
  refine x_istore_n [(0, .ref 8), (1, .int v1), (2, .int v1)] dX8_skipBlanks_1 rfl (Nat.le_of_ble_eq_true rfl) rfl ?_
  exact x_sub [0, 2] rfl (K)
theorem bX8_skipBlanks_2 {I : Nat → Nat → Int32} {L : Nat → Int64} {Q : Option Value → (Nat → Nat → Int32) → (Nat → Int64) → Prop} {v2 : Int32}  (K1 : ((I 514 0) ≤ v2) → XS mX8_skipBlanks 27 [(2, .int v2)] [] I L Q) (K2 : (¬ (I 514 0) ≤ v2) → XS mX8_skipBlanks 10 [(0, .ref 8), (2, .int v2)] [] I L Q) : XS mX8_skipBlanks 2 [(0, .ref 8), (2, .int v2)] [] I L Q := by
  refine x_iload_n 1 dX8_skipBlanks_2 rfl rfl ?_
  refine x_aload_n 0 dX8_skipBlanks_3 rfl rfl ?_
  refine xs_geti 514 dX8_skipBlanks_4 fl_X8_15 sh_8 rfl rfl ?_
  exact x_icmp_ge 27 dX8_skipBlanks_7 (by decide) (fun h => x_sub [1] rfl (K1 h)) (fun h => K2 h)
theorem bX8_skipBlanks_10 {I : Nat → Nat → Int32} {L : Nat → Int64} {Q : Option Value → (Nat → Nat → Int32) → (Nat → Int64) → Prop} {v2 : Int32} (hb1 : vp_in v2 200) (K1 : (¬ (I 576 (v2.toNatClampNeg)) = (32 : Int32)) → XS mX8_skipBlanks 27 [(2, .int v2)] [] I L Q) (K2 : ((I 576 (v2.toNatClampNeg)) = (32 : Int32)) → XS mX8_skipBlanks 21 [(0, .ref 8), (2, .int v2)] [] I L Q) : XS mX8_skipBlanks 10 [(0, .ref 8), (2, .int v2)] [] I L Q := by
  refine x_aload_n 0 dX8_skipBlanks_10 rfl rfl ?_
  refine xs_getr dX8_skipBlanks_11 fl_X8_9 sh_8 rfl rf_513 ?_
  refine x_iload_n 1 dX8_skipBlanks_14 rfl rfl ?_
  refine xs_iald 576 (v2.toNatClampNeg) dX8_skipBlanks_15 sh_9 rfl rfl hb1 ?_
  refine x_bipush (v := (32 : Int32)) dX8_skipBlanks_16 (by decide) ?_
  exact x_icmp_ne 27 dX8_skipBlanks_18 (by decide) (fun h => x_sub [1] rfl (K1 h)) (fun h => K2 h)
theorem bX8_skipBlanks_21 {I : Nat → Nat → Int32} {L : Nat → Int64} {Q : Option Value → (Nat → Nat → Int32) → (Nat → Int64) → Prop} {v2 : Int32}  (K : XS mX8_skipBlanks 2 [(0, .ref 8), (2, .int (v2 + (1 : Int32)))] [] I L Q) : XS mX8_skipBlanks 21 [(0, .ref 8), (2, .int v2)] [] I L Q := by
  refine x_iinc 1 (v2 + (1 : Int32)) [(0, .ref 8), (2, .int (v2 + (1 : Int32)))] dX8_skipBlanks_21 rfl rfl (Nat.le_of_ble_eq_true rfl) rfl ?_
  exact x_goto 2 dX8_skipBlanks_24 (by decide) (K)
theorem bX8_skipBlanks_27 {I : Nat → Nat → Int32} {L : Nat → Int64} {Q : Option Value → (Nat → Nat → Int32) → (Nat → Int64) → Prop} {v2 : Int32}  (K : Q (some (.int v2)) I L) : XS mX8_skipBlanks 27 [(2, .int v2)] [] I L Q := by
  refine x_iload_n 0 dX8_skipBlanks_27 rfl rfl ?_
  exact xs_iret dX8_skipBlanks_28 rfl rfl K
theorem bX8_rowOf_0 {I : Nat → Nat → Int32} {L : Nat → Int64} {Q : Option Value → (Nat → Nat → Int32) → (Nat → Int64) → Prop} {v0 : Int32}  (K1 : (v0 < (97 : Int32)) → XS mX8_rowOf 14 [(0, .int v0)] [] I L Q) (K2 : (¬ v0 < (97 : Int32)) → XS mX8_rowOf 6 [(0, .int v0)] [] I L Q) : XS mX8_rowOf 0 [(0, .int v0)] [] I L Q := by
  refine x_iload_n 0 dX8_rowOf_0 rfl rfl ?_
  refine x_bipush (v := (97 : Int32)) dX8_rowOf_1 (by decide) ?_
  exact x_icmp_lt 14 dX8_rowOf_3 (by decide) (fun h => K1 h) (fun h => K2 h)
theorem bX8_rowOf_6 {I : Nat → Nat → Int32} {L : Nat → Int64} {Q : Option Value → (Nat → Nat → Int32) → (Nat → Int64) → Prop} {v0 : Int32}  (K1 : ((122 : Int32) < v0) → XS mX8_rowOf 14 [(0, .int v0)] [] I L Q) (K2 : (¬ (122 : Int32) < v0) → XS mX8_rowOf 12 [] [] I L Q) : XS mX8_rowOf 6 [(0, .int v0)] [] I L Q := by
  refine x_iload_n 0 dX8_rowOf_6 rfl rfl ?_
  refine x_bipush (v := (122 : Int32)) dX8_rowOf_7 (by decide) ?_
  exact x_icmp_gt 14 dX8_rowOf_9 (by decide) (fun h => K1 h) (fun h => x_sub [] rfl (K2 h))
theorem bX8_rowOf_12 {I : Nat → Nat → Int32} {L : Nat → Int64} {Q : Option Value → (Nat → Nat → Int32) → (Nat → Int64) → Prop}   (K : Q (some (.int (1 : Int32))) I L) : XS mX8_rowOf 12 [] [] I L Q := by
  refine x_iconst (v := (1 : Int32)) dX8_rowOf_12 (by decide) ?_
  exact xs_iret dX8_rowOf_13 rfl rfl K
theorem bX8_rowOf_14 {I : Nat → Nat → Int32} {L : Nat → Int64} {Q : Option Value → (Nat → Nat → Int32) → (Nat → Int64) → Prop} {v0 : Int32}  (K1 : (v0 < (48 : Int32)) → XS mX8_rowOf 30 [] [] I L Q) (K2 : (¬ v0 < (48 : Int32)) → XS mX8_rowOf 20 [(0, .int v0)] [] I L Q) : XS mX8_rowOf 14 [(0, .int v0)] [] I L Q := by
  refine x_iload_n 0 dX8_rowOf_14 rfl rfl ?_
  refine x_bipush (v := (48 : Int32)) dX8_rowOf_15 (by decide) ?_
  exact x_icmp_lt 30 dX8_rowOf_17 (by decide) (fun h => x_sub [] rfl (K1 h)) (fun h => K2 h)
theorem bX8_rowOf_20 {I : Nat → Nat → Int32} {L : Nat → Int64} {Q : Option Value → (Nat → Nat → Int32) → (Nat → Int64) → Prop} {v0 : Int32}  (K1 : ((57 : Int32) < v0) → XS mX8_rowOf 30 [] [] I L Q) (K2 : (¬ (57 : Int32) < v0) → XS mX8_rowOf 26 [] [] I L Q) : XS mX8_rowOf 20 [(0, .int v0)] [] I L Q := by
  refine x_iload_n 0 dX8_rowOf_20 rfl rfl ?_
  refine x_bipush (v := (57 : Int32)) dX8_rowOf_21 (by decide) ?_
  exact x_icmp_gt 30 dX8_rowOf_23 (by decide) (fun h => x_sub [] rfl (K1 h)) (fun h => x_sub [] rfl (K2 h))
theorem bX8_rowOf_26 {I : Nat → Nat → Int32} {L : Nat → Int64} {Q : Option Value → (Nat → Nat → Int32) → (Nat → Int64) → Prop}   (K : XS mX8_rowOf 31 [] [.int (2 : Int32)] I L Q) : XS mX8_rowOf 26 [] [] I L Q := by
  refine x_iconst (v := (2 : Int32)) dX8_rowOf_26 (by decide) ?_
  exact x_goto 31 dX8_rowOf_27 (by decide) (K)
theorem bX8_rowOf_30 {I : Nat → Nat → Int32} {L : Nat → Int64} {Q : Option Value → (Nat → Nat → Int32) → (Nat → Int64) → Prop}   (K : XS mX8_rowOf 31 [] [.int (0 : Int32)] I L Q) : XS mX8_rowOf 30 [] [] I L Q := by
  refine x_iconst (v := (0 : Int32)) dX8_rowOf_30 (by decide) ?_
  exact K
theorem bX8_rowOf_31 {I : Nat → Nat → Int32} {L : Nat → Int64} {Q : Option Value → (Nat → Nat → Int32) → (Nat → Int64) → Prop} {s0 : Int32}  (K : Q (some (.int s0)) I L) : XS mX8_rowOf 31 [] [.int s0] I L Q := by
  exact xs_iret dX8_rowOf_31 rfl rfl K
