/-! ===== blocks ===== -/
theorem bX9_write_0 {I : Nat → Nat → Int32} {L : Nat → Int64} {Q : Option Value → (Nat → Nat → Int32) → (Nat → Int64) → Prop} {v1 : Int32}  (K1 : (v1 < 0) → XS mX9_write 11 [] [] I L Q) (K2 : (¬ v1 < 0) → XS mX9_write 4 [(0, .ref 0), (1, .int v1)] [] I L Q) : XS mX9_write 0 [(0, .ref 0), (1, .int v1)] [] I L Q := by
  refine x_iload_n 1 dX9_write_0 rfl rfl ?_
  exact x_if_lt 11 dX9_write_1 (by decide) (fun h => x_sub [] rfl (K1 h)) (fun h => K2 h)
theorem bX9_write_4 {I : Nat → Nat → Int32} {L : Nat → Int64} {Q : Option Value → (Nat → Nat → Int32) → (Nat → Int64) → Prop} {v1 : Int32}  (K1 : (v1 ≤ (255 : Int32)) → XS mX9_write 14 [(0, .ref 0), (1, .int v1)] [] I L Q) (K2 : (¬ v1 ≤ (255 : Int32)) → XS mX9_write 11 [] [] I L Q) : XS mX9_write 4 [(0, .ref 0), (1, .int v1)] [] I L Q := by
  refine x_iload_n 1 dX9_write_4 rfl rfl ?_
  refine x_sipush (v := (255 : Int32)) dX9_write_5 (by decide) ?_
  exact x_icmp_le 14 dX9_write_8 (by decide) (fun h => K1 h) (fun h => x_sub [] rfl (K2 h))
theorem bX9_write_11 {I : Nat → Nat → Int32} {L : Nat → Int64} {Q : Option Value → (Nat → Nat → Int32) → (Nat → Int64) → Prop}   (K : Q (some (.int (-3 : Int32))) I L) : XS mX9_write 11 [] [] I L Q := by
  refine x_bipush (v := (-3 : Int32)) dX9_write_11 (by decide) ?_
  exact xs_iret dX9_write_13 rfl rfl K
theorem bX9_write_14 {I : Nat → Nat → Int32} {L : Nat → Int64} {Q : Option Value → (Nat → Nat → Int32) → (Nat → Int64) → Prop} {v1 : Int32}  (K1 : ((I 514 0) < (200 : Int32)) → XS mX9_write 30 [(0, .ref 0), (1, .int v1)] [] I L Q) (K2 : (¬ (I 514 0) < (200 : Int32)) → XS mX9_write 27 [] [] I L Q) : XS mX9_write 14 [(0, .ref 0), (1, .int v1)] [] I L Q := by
  refine x_aload_n 0 dX9_write_14 rfl rfl ?_
  refine xs_getr dX9_write_15 fl_X9_21 sh_0 rfl rf_1 ?_
  refine xs_geti 514 dX9_write_18 fl_X9_80 sh_8 rfl rfl ?_
  refine x_sipush (v := (200 : Int32)) dX9_write_21 (by decide) ?_
  exact x_icmp_lt 30 dX9_write_24 (by decide) (fun h => K1 h) (fun h => x_sub [] rfl (K2 h))
theorem bX9_write_27 {I : Nat → Nat → Int32} {L : Nat → Int64} {Q : Option Value → (Nat → Nat → Int32) → (Nat → Int64) → Prop}   (K : Q (some (.int (-5 : Int32))) I L) : XS mX9_write 27 [] [] I L Q := by
  refine x_bipush (v := (-5 : Int32)) dX9_write_27 (by decide) ?_
  exact xs_iret dX9_write_29 rfl rfl K
theorem bX9_write_30 {I : Nat → Nat → Int32} {L : Nat → Int64} {Q : Option Value → (Nat → Nat → Int32) → (Nat → Int64) → Prop} {v1 : Int32}  (K : XS mX8_addLetter 0 [(0, .ref 8), (1, .int v1)] [] I L (fun r I' L' => XS mX9_write 38 [(0, .ref 0)] (r.toList ++ []) I' L' Q)) : XS mX9_write 30 [(0, .ref 0), (1, .int v1)] [] I L Q := by
  refine x_aload_n 0 dX9_write_30 rfl rfl ?_
  refine xs_getr dX9_write_31 fl_X9_21 sh_0 rfl rf_1 ?_
  refine x_iload_n 1 dX9_write_34 rfl rfl ?_
  refine x_sub [0] rfl ?_
  exact xs_callV mX8_addLetter [.int v1] [] 8 8 1 _ rfl dX9_write_35 ml_X9_84 qX8_addLetter rfl ⟨Nat.le_of_ble_eq_true rfl, Nat.le_of_ble_eq_true rfl⟩ ⟨rfl, rfl⟩ (Nat.le_of_ble_eq_true rfl) sh_8 (by decide) rfl (Nat.le_of_ble_eq_true rfl) (K)
theorem bX9_write_38 {I : Nat → Nat → Int32} {L : Nat → Int64} {Q : Option Value → (Nat → Nat → Int32) → (Nat → Int64) → Prop}   (K : Q (some (.int (I 514 0))) I L) : XS mX9_write 38 [(0, .ref 0)] [] I L Q := by
  refine x_aload_n 0 dX9_write_38 rfl rfl ?_
  refine xs_getr dX9_write_39 fl_X9_21 sh_0 rfl rf_1 ?_
  refine xs_geti 514 dX9_write_42 fl_X9_80 sh_8 rfl rfl ?_
  exact xs_iret dX9_write_45 rfl rfl K
theorem bX9_erase_0 {I : Nat → Nat → Int32} {L : Nat → Int64} {Q : Option Value → (Nat → Nat → Int32) → (Nat → Int64) → Prop}   (K : Q (some (.int (I 514 0))) (x_up I 514 0 (0 : Int32)) L) : XS mX9_erase 0 [(0, .ref 0)] [] I L Q := by
  refine x_aload_n 0 dX9_erase_0 rfl rfl ?_
  refine xs_getr dX9_erase_1 fl_X9_21 sh_0 rfl rf_1 ?_
  refine xs_geti 514 dX9_erase_4 fl_X9_80 sh_8 rfl rfl ?_
  refine x_istore_n [(0, .ref 0), (1, .int (I 514 0))] dX9_erase_7 rfl (Nat.le_of_ble_eq_true rfl) rfl ?_
  refine x_aload_n 0 dX9_erase_8 rfl rfl ?_
  refine xs_getr dX9_erase_9 fl_X9_21 sh_0 rfl rf_1 ?_
  refine x_iconst (v := (0 : Int32)) dX9_erase_12 (by decide) ?_
  refine xs_puti 514 dX9_erase_13 fl_X9_80 sh_8 rfl rfl rfl ?_
  refine x_iload_n 1 dX9_erase_16 rfl rfl ?_
  exact xs_iret dX9_erase_17 rfl rfl K
theorem bX9_fault_0 {I : Nat → Nat → Int32} {L : Nat → Int64} {Q : Option Value → (Nat → Nat → Int32) → (Nat → Int64) → Prop}   (K : XS mX8_findFault 0 [(0, .ref 8)] [] I L (fun r I' L' => XS mX9_fault 7 [] (r.toList ++ []) I' L' Q)) : XS mX9_fault 0 [(0, .ref 0)] [] I L Q := by
  refine x_aload_n 0 dX9_fault_0 rfl rfl ?_
  refine xs_getr dX9_fault_1 fl_X9_21 sh_0 rfl rf_1 ?_
  refine x_sub [] rfl ?_
  exact xs_callV mX8_findFault [] [] 8 8 0 _ rfl dX9_fault_4 ml_X9_87 qX8_findFault rfl ⟨Nat.le_of_ble_eq_true rfl, Nat.le_of_ble_eq_true rfl⟩ ⟨rfl, rfl⟩ (Nat.le_of_ble_eq_true rfl) sh_8 (by decide) rfl (Nat.le_of_ble_eq_true rfl) (K)
theorem bX9_fault_7 {I : Nat → Nat → Int32} {L : Nat → Int64} {Q : Option Value → (Nat → Nat → Int32) → (Nat → Int64) → Prop} {s0 : Int32}  (K : Q (some (.int s0)) I L) : XS mX9_fault 7 [] [.int s0] I L Q := by
  exact xs_iret dX9_fault_7 rfl rfl K
theorem bX9_tell_0 {I : Nat → Nat → Int32} {L : Nat → Int64} {Q : Option Value → (Nat → Nat → Int32) → (Nat → Int64) → Prop}   (K : XS mX8_findFault 0 [(0, .ref 8)] [] I L (fun r I' L' => XS mX9_tell 7 [(0, .ref 0)] (r.toList ++ []) I' L' Q)) : XS mX9_tell 0 [(0, .ref 0)] [] I L Q := by
  refine x_aload_n 0 dX9_tell_0 rfl rfl ?_
  refine xs_getr dX9_tell_1 fl_X9_21 sh_0 rfl rf_1 ?_
  exact xs_callV mX8_findFault [] [] 8 8 0 _ rfl dX9_tell_4 ml_X9_87 qX8_findFault rfl ⟨Nat.le_of_ble_eq_true rfl, Nat.le_of_ble_eq_true rfl⟩ ⟨rfl, rfl⟩ (Nat.le_of_ble_eq_true rfl) sh_8 (by decide) rfl (Nat.le_of_ble_eq_true rfl) (K)
theorem bX9_tell_7 {I : Nat → Nat → Int32} {L : Nat → Int64} {Q : Option Value → (Nat → Nat → Int32) → (Nat → Int64) → Prop} {s0 : Int32}  (K1 : (s0 = (-1 : Int32)) → XS mX9_tell 14 [(0, .ref 0)] [] I L Q) (K2 : (¬ s0 = (-1 : Int32)) → XS mX9_tell 11 [] [] I L Q) : XS mX9_tell 7 [(0, .ref 0)] [.int s0] I L Q := by
  refine x_iconst (v := (-1 : Int32)) dX9_tell_7 (by decide) ?_
  exact x_icmp_eq 14 dX9_tell_8 (by decide) (fun h => K1 h) (fun h => x_sub [] rfl (K2 h))
theorem bX9_tell_11 {I : Nat → Nat → Int32} {L : Nat → Int64} {Q : Option Value → (Nat → Nat → Int32) → (Nat → Int64) → Prop}   (K : Q (some (.int (-4 : Int32))) I L) : XS mX9_tell 11 [] [] I L Q := by
  refine x_bipush (v := (-4 : Int32)) dX9_tell_11 (by decide) ?_
  exact xs_iret dX9_tell_13 rfl rfl K
theorem bX9_tell_14 {I : Nat → Nat → Int32} {L : Nat → Int64} {Q : Option Value → (Nat → Nat → Int32) → (Nat → Int64) → Prop}   (K : XS mX9_tell 16 [(0, .ref 0), (1, .int (0 : Int32))] [] I L Q) : XS mX9_tell 14 [(0, .ref 0)] [] I L Q := by
  refine x_iconst (v := (0 : Int32)) dX9_tell_14 (by decide) ?_
  refine x_istore_n [(0, .ref 0), (1, .int (0 : Int32))] dX9_tell_15 rfl (Nat.le_of_ble_eq_true rfl) rfl ?_
  exact K
theorem bX9_tell_16 {I : Nat → Nat → Int32} {L : Nat → Int64} {Q : Option Value → (Nat → Nat → Int32) → (Nat → Int64) → Prop} {v1 : Int32}  (K1 : ((I 515 0) ≤ v1) → XS mX9_tell 38 [(0, .ref 0)] [] I L Q) (K2 : (¬ (I 515 0) ≤ v1) → XS mX9_tell 27 [(0, .ref 0), (1, .int v1)] [] I L Q) : XS mX9_tell 16 [(0, .ref 0), (1, .int v1)] [] I L Q := by
  refine x_iload_n 1 dX9_tell_16 rfl rfl ?_
  refine x_aload_n 0 dX9_tell_17 rfl rfl ?_
  refine xs_getr dX9_tell_18 fl_X9_21 sh_0 rfl rf_1 ?_
  refine xs_geti 515 dX9_tell_21 fl_X9_91 sh_8 rfl rfl ?_
  exact x_icmp_ge 38 dX9_tell_24 (by decide) (fun h => x_sub [0] rfl (K1 h)) (fun h => K2 h)
theorem bX9_tell_27 {I : Nat → Nat → Int32} {L : Nat → Int64} {Q : Option Value → (Nat → Nat → Int32) → (Nat → Int64) → Prop} {v1 : Int32}  (K : XS mX9_doClause 0 [(0, .ref 0), (1, .int v1)] [] I L (fun r I' L' => XS mX9_tell 32 [(0, .ref 0), (1, .int v1)] (r.toList ++ []) I' L' Q)) : XS mX9_tell 27 [(0, .ref 0), (1, .int v1)] [] I L Q := by
  refine x_aload_n 0 dX9_tell_27 rfl rfl ?_
  refine x_iload_n 1 dX9_tell_28 rfl rfl ?_
  exact xs_callV mX9_doClause [.int v1] [] 0 9 1 _ rfl dX9_tell_29 ml_X9_94 qX9_doClause rfl ⟨Nat.le_of_ble_eq_true rfl, Nat.le_of_ble_eq_true rfl⟩ ⟨rfl, rfl⟩ (Nat.le_of_ble_eq_true rfl) sh_0 (by decide) rfl (Nat.le_of_ble_eq_true rfl) (K)
theorem bX9_tell_32 {I : Nat → Nat → Int32} {L : Nat → Int64} {Q : Option Value → (Nat → Nat → Int32) → (Nat → Int64) → Prop} {v1 : Int32}  (K : XS mX9_tell 16 [(0, .ref 0), (1, .int (v1 + (1 : Int32)))] [] I L Q) : XS mX9_tell 32 [(0, .ref 0), (1, .int v1)] [] I L Q := by
  refine x_iinc 1 (v1 + (1 : Int32)) [(0, .ref 0), (1, .int (v1 + (1 : Int32)))] dX9_tell_32 rfl rfl (Nat.le_of_ble_eq_true rfl) rfl ?_
  exact x_goto 16 dX9_tell_35 (by decide) (K)
theorem bX9_tell_38 {I : Nat → Nat → Int32} {L : Nat → Int64} {Q : Option Value → (Nat → Nat → Int32) → (Nat → Int64) → Prop}   (K : XS mX1_forgetAll 0 [(0, .ref 43)] [] (x_up I 710 0 (0 : Int32)) L (fun r I' L' => XS mX9_tell 53 [(0, .ref 0)] (r.toList ++ []) I' L' Q)) : XS mX9_tell 38 [(0, .ref 0)] [] I L Q := by
  refine x_aload_n 0 dX9_tell_38 rfl rfl ?_
  refine xs_getr dX9_tell_39 fl_X9_28 sh_0 rfl rf_2 ?_
  refine x_iconst (v := (0 : Int32)) dX9_tell_42 (by decide) ?_
  refine xs_puti 710 dX9_tell_43 fl_X9_97 sh_11 rfl rfl rfl ?_
  refine x_aload_n 0 dX9_tell_46 rfl rfl ?_
  refine xs_getr dX9_tell_47 fl_X9_76 sh_0 rfl rf_8 ?_
  exact xs_callV mX1_forgetAll [] [] 43 1 0 _ rfl dX9_tell_50 ml_X9_100 qX1_forgetAll rfl ⟨Nat.le_of_ble_eq_true rfl, Nat.le_of_ble_eq_true rfl⟩ ⟨rfl, rfl⟩ (Nat.le_of_ble_eq_true rfl) sh_43 (by decide) rfl (Nat.le_of_ble_eq_true rfl) (K)
theorem bX9_tell_53 {I : Nat → Nat → Int32} {L : Nat → Int64} {Q : Option Value → (Nat → Nat → Int32) → (Nat → Int64) → Prop}   (K : XS mJ7_fill_53178 0 [(0, .ref 6), (1, .int (0 : Int32))] [] I L (fun r I' L' => XS mX9_tell 64 [(0, .ref 0)] (r.toList ++ []) I' L' Q)) : XS mX9_tell 53 [(0, .ref 0)] [] I L Q := by
  refine x_aload_n 0 dX9_tell_53 rfl rfl ?_
  refine xs_getr dX9_tell_54 fl_X9_10 sh_0 rfl rf_0 ?_
  refine xs_getr dX9_tell_57 fl_X9_103 sh_1 rfl rf_71 ?_
  refine x_iconst (v := (0 : Int32)) dX9_tell_60 (by decide) ?_
  exact xs_callS mJ7_fill_53178 [.ref 6, .int (0 : Int32)] [] 2 _ rfl dX9_tell_61 ml_X9_107 qJ7_fill_53178 rfl ⟨Nat.le_of_ble_eq_true rfl, Nat.le_of_ble_eq_true rfl⟩ ⟨rfl, rfl⟩ (Nat.le_of_ble_eq_true rfl) (Nat.le_of_ble_eq_true rfl) (K)
theorem bX9_tell_64 {I : Nat → Nat → Int32} {L : Nat → Int64} {Q : Option Value → (Nat → Nat → Int32) → (Nat → Int64) → Prop}   (K : Q (some (.int ((x_up I 514 0 (0 : Int32)) 515 0))) (x_up I 514 0 (0 : Int32)) L) : XS mX9_tell 64 [(0, .ref 0)] [] I L Q := by
  refine x_aload_n 0 dX9_tell_64 rfl rfl ?_
  refine xs_getr dX9_tell_65 fl_X9_21 sh_0 rfl rf_1 ?_
  refine x_iconst (v := (0 : Int32)) dX9_tell_68 (by decide) ?_
  refine xs_puti 514 dX9_tell_69 fl_X9_80 sh_8 rfl rfl rfl ?_
  refine x_aload_n 0 dX9_tell_72 rfl rfl ?_
  refine xs_getr dX9_tell_73 fl_X9_21 sh_0 rfl rf_1 ?_
  refine xs_geti 515 dX9_tell_76 fl_X9_91 sh_8 rfl rfl ?_
  exact xs_iret dX9_tell_79 rfl rfl K
theorem bX9_doClause_0 {I : Nat → Nat → Int32} {L : Nat → Int64} {Q : Option Value → (Nat → Nat → Int32) → (Nat → Int64) → Prop} {v1 : Int32}  (K : XS mX8_tellsNodes 0 [(0, .ref 8), (1, .int v1)] [] I L (fun r I' L' => XS mX9_doClause 8 [(0, .ref 0), (1, .int v1)] (r.toList ++ []) I' L' Q)) : XS mX9_doClause 0 [(0, .ref 0), (1, .int v1)] [] I L Q := by
  refine x_aload_n 0 dX9_doClause_0 rfl rfl ?_
  refine xs_getr dX9_doClause_1 fl_X9_21 sh_0 rfl rf_1 ?_
  refine x_iload_n 1 dX9_doClause_4 rfl rfl ?_
  exact xs_callV mX8_tellsNodes [.int v1] [] 8 8 1 _ rfl dX9_doClause_5 ml_X9_113 qX8_tellsNodes rfl ⟨Nat.le_of_ble_eq_true rfl, Nat.le_of_ble_eq_true rfl⟩ ⟨rfl, rfl⟩ (Nat.le_of_ble_eq_true rfl) sh_8 (by decide) rfl (Nat.le_of_ble_eq_true rfl) (K)
theorem bX9_doClause_8 {I : Nat → Nat → Int32} {L : Nat → Int64} {Q : Option Value → (Nat → Nat → Int32) → (Nat → Int64) → Prop} {v1 : Int32} {s0 : Int32}  (K1 : (s0 = 0) → XS mX9_doClause 54 [(0, .ref 0), (1, .int v1)] [] I L Q) (K2 : (¬ s0 = 0) → XS mX9_doClause 11 [(0, .ref 0), (1, .int v1)] [] I L Q) : XS mX9_doClause 8 [(0, .ref 0), (1, .int v1)] [.int s0] I L Q := by
  exact x_if_eq 54 dX9_doClause_8 (by decide) (fun h => K1 h) (fun h => K2 h)
theorem bX9_doClause_11 {I : Nat → Nat → Int32} {L : Nat → Int64} {Q : Option Value → (Nat → Nat → Int32) → (Nat → Int64) → Prop} {v1 : Int32}  (K : XS mX8_told 0 [(0, .ref 8), (1, .int v1), (2, .int (0 : Int32))] [] I L (fun r I' L' => XS mX9_doClause 24 [(0, .ref 0)] (r.toList ++ [.ref 1]) I' L' Q)) : XS mX9_doClause 11 [(0, .ref 0), (1, .int v1)] [] I L Q := by
  refine x_aload_n 0 dX9_doClause_11 rfl rfl ?_
  refine xs_getr dX9_doClause_12 fl_X9_10 sh_0 rfl rf_0 ?_
  refine x_aload_n 0 dX9_doClause_15 rfl rfl ?_
  refine xs_getr dX9_doClause_16 fl_X9_21 sh_0 rfl rf_1 ?_
  refine x_iload_n 1 dX9_doClause_19 rfl rfl ?_
  refine x_iconst (v := (0 : Int32)) dX9_doClause_20 (by decide) ?_
  refine x_sub [0] rfl ?_
  exact xs_callV mX8_told [.int v1, .int (0 : Int32)] [.ref 1] 8 8 2 _ rfl dX9_doClause_21 ml_X9_117 qX8_told rfl ⟨Nat.le_of_ble_eq_true rfl, Nat.le_of_ble_eq_true rfl⟩ ⟨rfl, rfl⟩ (Nat.le_of_ble_eq_true rfl) sh_8 (by decide) rfl (Nat.le_of_ble_eq_true rfl) (K)
theorem bX9_doClause_24 {I : Nat → Nat → Int32} {L : Nat → Int64} {Q : Option Value → (Nat → Nat → Int32) → (Nat → Int64) → Prop} {s1 : Int32}  (K : XS mX2_startAnew 0 [(0, .ref 1), (1, .int s1)] [] I L (fun r I' L' => XS mX9_doClause 27 [(0, .ref 0)] (r.toList ++ []) I' L' Q)) : XS mX9_doClause 24 [(0, .ref 0)] [.int s1, .ref 1] I L Q := by
  exact xs_callV mX2_startAnew [.int s1] [] 1 2 1 _ rfl dX9_doClause_24 ml_X9_121 qX2_startAnew rfl ⟨Nat.le_of_ble_eq_true rfl, Nat.le_of_ble_eq_true rfl⟩ ⟨rfl, rfl⟩ (Nat.le_of_ble_eq_true rfl) sh_1 (by decide) rfl (Nat.le_of_ble_eq_true rfl) (K)
theorem bX9_doClause_27 {I : Nat → Nat → Int32} {L : Nat → Int64} {Q : Option Value → (Nat → Nat → Int32) → (Nat → Int64) → Prop}   (K : XS mX9_doClause 97 [] [] (x_up (x_up (x_up I 1666 0 (0 : Int32)) 1857 0 (0 : Int32)) 2757 0 (0 : Int32)) L Q) : XS mX9_doClause 27 [(0, .ref 0)] [] I L Q := by
  refine x_aload_n 0 dX9_doClause_27 rfl rfl ?_
  refine xs_getr dX9_doClause_28 fl_X9_53 sh_0 rfl rf_5 ?_
  refine x_iconst (v := (0 : Int32)) dX9_doClause_31 (by decide) ?_
  refine xs_puti 1666 dX9_doClause_32 fl_X9_124 sh_26 rfl rfl rfl ?_
  refine x_aload_n 0 dX9_doClause_35 rfl rfl ?_
  refine xs_getr dX9_doClause_36 fl_X9_60 sh_0 rfl rf_6 ?_
  refine x_iconst (v := (0 : Int32)) dX9_doClause_39 (by decide) ?_
  refine xs_puti 1857 dX9_doClause_40 fl_X9_125 sh_29 rfl rfl rfl ?_
  refine x_aload_n 0 dX9_doClause_43 rfl rfl ?_
  refine xs_getr dX9_doClause_44 fl_X9_76 sh_0 rfl rf_8 ?_
  refine x_iconst (v := (0 : Int32)) dX9_doClause_47 (by decide) ?_
  refine xs_puti 2757 dX9_doClause_48 fl_X9_126 sh_43 rfl rfl rfl ?_
  exact x_goto 97 dX9_doClause_51 (by decide) (x_sub [] rfl (K))
theorem bX9_doClause_54 {I : Nat → Nat → Int32} {L : Nat → Int64} {Q : Option Value → (Nat → Nat → Int32) → (Nat → Int64) → Prop} {v1 : Int32}  (K : XS mX8_told 0 [(0, .ref 8), (1, .int v1), (2, .int (0 : Int32))] [] I L (fun r I' L' => XS mX9_doClause 67 [(0, .ref 0), (1, .int v1)] (r.toList ++ [.ref 1]) I' L' Q)) : XS mX9_doClause 54 [(0, .ref 0), (1, .int v1)] [] I L Q := by
  refine x_aload_n 0 dX9_doClause_54 rfl rfl ?_
  refine xs_getr dX9_doClause_55 fl_X9_10 sh_0 rfl rf_0 ?_
  refine x_aload_n 0 dX9_doClause_58 rfl rfl ?_
  refine xs_getr dX9_doClause_59 fl_X9_21 sh_0 rfl rf_1 ?_
  refine x_iload_n 1 dX9_doClause_62 rfl rfl ?_
  refine x_iconst (v := (0 : Int32)) dX9_doClause_63 (by decide) ?_
  exact xs_callV mX8_told [.int v1, .int (0 : Int32)] [.ref 1] 8 8 2 _ rfl dX9_doClause_64 ml_X9_117 qX8_told rfl ⟨Nat.le_of_ble_eq_true rfl, Nat.le_of_ble_eq_true rfl⟩ ⟨rfl, rfl⟩ (Nat.le_of_ble_eq_true rfl) sh_8 (by decide) rfl (Nat.le_of_ble_eq_true rfl) (K)
theorem bX9_doClause_67 {I : Nat → Nat → Int32} {L : Nat → Int64} {Q : Option Value → (Nat → Nat → Int32) → (Nat → Int64) → Prop} {v1 : Int32} {s1 : Int32}  (K : XS mX8_told 0 [(0, .ref 8), (1, .int v1), (2, .int (1 : Int32))] [] I L (fun r I' L' => XS mX9_doClause 76 [(0, .ref 0), (1, .int v1)] (r.toList ++ [.int s1, .ref 1]) I' L' Q)) : XS mX9_doClause 67 [(0, .ref 0), (1, .int v1)] [.int s1, .ref 1] I L Q := by
  refine x_aload_n 0 dX9_doClause_67 rfl rfl ?_
  refine xs_getr dX9_doClause_68 fl_X9_21 sh_0 rfl rf_1 ?_
  refine x_iload_n 1 dX9_doClause_71 rfl rfl ?_
  refine x_iconst (v := (1 : Int32)) dX9_doClause_72 (by decide) ?_
  exact xs_callV mX8_told [.int v1, .int (1 : Int32)] [.int s1, .ref 1] 8 8 2 _ rfl dX9_doClause_73 ml_X9_117 qX8_told rfl ⟨Nat.le_of_ble_eq_true rfl, Nat.le_of_ble_eq_true rfl⟩ ⟨rfl, rfl⟩ (Nat.le_of_ble_eq_true rfl) sh_8 (by decide) rfl (Nat.le_of_ble_eq_true rfl) (K)
theorem bX9_doClause_76 {I : Nat → Nat → Int32} {L : Nat → Int64} {Q : Option Value → (Nat → Nat → Int32) → (Nat → Int64) → Prop} {v1 : Int32} {s1 : Int32} {s2 : Int32}  (K : XS mX8_told 0 [(0, .ref 8), (1, .int v1), (2, .int (2 : Int32))] [] I L (fun r I' L' => XS mX9_doClause 85 [(0, .ref 0), (1, .int v1)] (r.toList ++ [.int s2, .int s1, .ref 1]) I' L' Q)) : XS mX9_doClause 76 [(0, .ref 0), (1, .int v1)] [.int s2, .int s1, .ref 1] I L Q := by
  refine x_aload_n 0 dX9_doClause_76 rfl rfl ?_
  refine xs_getr dX9_doClause_77 fl_X9_21 sh_0 rfl rf_1 ?_
  refine x_iload_n 1 dX9_doClause_80 rfl rfl ?_
  refine x_iconst (v := (2 : Int32)) dX9_doClause_81 (by decide) ?_
  exact xs_callV mX8_told [.int v1, .int (2 : Int32)] [.int s2, .int s1, .ref 1] 8 8 2 _ rfl dX9_doClause_82 ml_X9_117 qX8_told rfl ⟨Nat.le_of_ble_eq_true rfl, Nat.le_of_ble_eq_true rfl⟩ ⟨rfl, rfl⟩ (Nat.le_of_ble_eq_true rfl) sh_8 (by decide) rfl (Nat.le_of_ble_eq_true rfl) (K)
theorem bX9_doClause_85 {I : Nat → Nat → Int32} {L : Nat → Int64} {Q : Option Value → (Nat → Nat → Int32) → (Nat → Int64) → Prop} {v1 : Int32} {s1 : Int32} {s2 : Int32} {s3 : Int32}  (K : XS mX8_told 0 [(0, .ref 8), (1, .int v1), (2, .int (3 : Int32))] [] I L (fun r I' L' => XS mX9_doClause 94 [] (r.toList ++ [.int s3, .int s2, .int s1, .ref 1]) I' L' Q)) : XS mX9_doClause 85 [(0, .ref 0), (1, .int v1)] [.int s3, .int s2, .int s1, .ref 1] I L Q := by
  refine x_aload_n 0 dX9_doClause_85 rfl rfl ?_
  refine xs_getr dX9_doClause_86 fl_X9_21 sh_0 rfl rf_1 ?_
  refine x_iload_n 1 dX9_doClause_89 rfl rfl ?_
  refine x_iconst (v := (3 : Int32)) dX9_doClause_90 (by decide) ?_
  refine x_sub [] rfl ?_
  exact xs_callV mX8_told [.int v1, .int (3 : Int32)] [.int s3, .int s2, .int s1, .ref 1] 8 8 2 _ rfl dX9_doClause_91 ml_X9_117 qX8_told rfl ⟨Nat.le_of_ble_eq_true rfl, Nat.le_of_ble_eq_true rfl⟩ ⟨rfl, rfl⟩ (Nat.le_of_ble_eq_true rfl) sh_8 (by decide) rfl (Nat.le_of_ble_eq_true rfl) (K)
theorem bX9_doClause_94 {I : Nat → Nat → Int32} {L : Nat → Int64} {Q : Option Value → (Nat → Nat → Int32) → (Nat → Int64) → Prop} {s1 : Int32} {s2 : Int32} {s3 : Int32} {s4 : Int32}  (K : XS mX2_putLink 0 [(0, .ref 1), (1, .int s1), (2, .int s2), (3, .int s3), (4, .int s4)] [] I L (fun r I' L' => XS mX9_doClause 97 [] (r.toList ++ []) I' L' Q)) : XS mX9_doClause 94 [] [.int s4, .int s3, .int s2, .int s1, .ref 1] I L Q := by
  exact xs_callV mX2_putLink [.int s1, .int s2, .int s3, .int s4] [] 1 2 4 _ rfl dX9_doClause_94 ml_X9_129 qX2_putLink rfl ⟨Nat.le_of_ble_eq_true rfl, Nat.le_of_ble_eq_true rfl⟩ ⟨rfl, rfl⟩ (Nat.le_of_ble_eq_true rfl) sh_1 (by decide) rfl (Nat.le_of_ble_eq_true rfl) (K)
theorem bX9_doClause_97 {I : Nat → Nat → Int32} {L : Nat → Int64} {Q : Option Value → (Nat → Nat → Int32) → (Nat → Int64) → Prop}   (K : Q none I L) : XS mX9_doClause 97 [] [] I L Q := by
  exact xs_end dX9_doClause_97 rfl K
theorem bX9_link_0 {I : Nat → Nat → Int32} {L : Nat → Int64} {Q : Option Value → (Nat → Nat → Int32) → (Nat → Int64) → Prop} {v1 : Int32} {v2 : Int32}  (K : XS mX2_hasLink 0 [(0, .ref 1), (1, .int v1)] [] I L (fun r I' L' => XS mX9_link 8 [(0, .ref 0), (1, .int v1), (2, .int v2)] (r.toList ++ []) I' L' Q)) : XS mX9_link 0 [(0, .ref 0), (1, .int v1), (2, .int v2)] [] I L Q := by
  refine x_aload_n 0 dX9_link_0 rfl rfl ?_
  refine xs_getr dX9_link_1 fl_X9_10 sh_0 rfl rf_0 ?_
  refine x_iload_n 1 dX9_link_4 rfl rfl ?_
  exact xs_callV mX2_hasLink [.int v1] [] 1 2 1 _ rfl dX9_link_5 ml_X9_133 qX2_hasLink rfl ⟨Nat.le_of_ble_eq_true rfl, Nat.le_of_ble_eq_true rfl⟩ ⟨rfl, rfl⟩ (Nat.le_of_ble_eq_true rfl) sh_1 (by decide) rfl (Nat.le_of_ble_eq_true rfl) (K)
theorem bX9_link_8 {I : Nat → Nat → Int32} {L : Nat → Int64} {Q : Option Value → (Nat → Nat → Int32) → (Nat → Int64) → Prop} {v1 : Int32} {v2 : Int32} {s0 : Int32}  (K1 : (¬ s0 = 0) → XS mX9_link 14 [(0, .ref 0), (1, .int v1), (2, .int v2)] [] I L Q) (K2 : (s0 = 0) → XS mX9_link 11 [] [] I L Q) : XS mX9_link 8 [(0, .ref 0), (1, .int v1), (2, .int v2)] [.int s0] I L Q := by
  exact x_if_ne 14 dX9_link_8 (by decide) (fun h => K1 h) (fun h => x_sub [] rfl (K2 h))
theorem bX9_link_11 {I : Nat → Nat → Int32} {L : Nat → Int64} {Q : Option Value → (Nat → Nat → Int32) → (Nat → Int64) → Prop}   (K : Q (some (.int (-2 : Int32))) I L) : XS mX9_link 11 [] [] I L Q := by
  refine x_bipush (v := (-2 : Int32)) dX9_link_11 (by decide) ?_
  exact xs_iret dX9_link_13 rfl rfl K
theorem bX9_link_14 {I : Nat → Nat → Int32} {L : Nat → Int64} {Q : Option Value → (Nat → Nat → Int32) → (Nat → Int64) → Prop} {v1 : Int32} {v2 : Int32}  (Kd : (v2.toInt < 0 ∨ 5 < v2.toInt) → XS mX9_link 119 [] [] I L Q) (K0 : (v2 = 0) → XS mX9_link 52 [(0, .ref 0), (1, .int v1)] [] I L Q) (K1 : (v2 = 1) → XS mX9_link 62 [(0, .ref 0), (1, .int v1)] [] I L Q) (K2 : (v2 = 2) → XS mX9_link 72 [(0, .ref 0), (1, .int v1)] [] I L Q) (K3 : (v2 = 3) → XS mX9_link 82 [(0, .ref 0), (1, .int v1)] [] I L Q) (K4 : (v2 = 4) → XS mX9_link 92 [(0, .ref 0), (1, .int v1)] [] I L Q) (K5 : (v2 = 5) → XS mX9_link 109 [(0, .ref 0), (1, .int v1)] [] I L Q) : XS mX9_link 14 [(0, .ref 0), (1, .int v1), (2, .int v2)] [] I L Q := by
  refine x_iload_n 2 dX9_link_14 rfl rfl ?_
  by_cases g1 : v2.toInt < 0
  · exact x_swOut 119 dX9_link_15 (Or.inl g1) (by decide) (x_sub [] rfl (Kd (Or.inl g1)))
  by_cases g2 : 5 < v2.toInt
  · exact x_swOut 119 dX9_link_15 (Or.inr g2) (by decide) (x_sub [] rfl (Kd (Or.inr g2)))
  obtain ⟨k, hk, e⟩ := x_swcase (x := v2) 0 5 g1 (by omega)
  rcases (show k = 0 ∨ k = 1 ∨ k = 2 ∨ k = 3 ∨ k = 4 ∨ k = 5 by omega) with rfl | rfl | rfl | rfl | rfl | rfl
  · exact x_swIn 52 dX9_link_15 g1 g2 (by rw [e]; rfl) (by decide) (x_sub [0, 1] rfl (K0 (x_toI 0 e rfl)))
  · exact x_swIn 62 dX9_link_15 g1 g2 (by rw [e]; rfl) (by decide) (x_sub [0, 1] rfl (K1 (x_toI 1 e rfl)))
  · exact x_swIn 72 dX9_link_15 g1 g2 (by rw [e]; rfl) (by decide) (x_sub [0, 1] rfl (K2 (x_toI 2 e rfl)))
  · exact x_swIn 82 dX9_link_15 g1 g2 (by rw [e]; rfl) (by decide) (x_sub [0, 1] rfl (K3 (x_toI 3 e rfl)))
  · exact x_swIn 92 dX9_link_15 g1 g2 (by rw [e]; rfl) (by decide) (x_sub [0, 1] rfl (K4 (x_toI 4 e rfl)))
  · exact x_swIn 109 dX9_link_15 g1 g2 (by rw [e]; rfl) (by decide) (x_sub [0, 1] rfl (K5 (x_toI 5 e rfl)))
theorem bX9_link_52 {I : Nat → Nat → Int32} {L : Nat → Int64} {Q : Option Value → (Nat → Nat → Int32) → (Nat → Int64) → Prop} {v1 : Int32} (hb1 : vp_in v1 14) (K : Q (some (.int (I 128 (v1.toNatClampNeg)))) I L) : XS mX9_link 52 [(0, .ref 0), (1, .int v1)] [] I L Q := by
  refine x_aload_n 0 dX9_link_52 rfl rfl ?_
  refine xs_getr dX9_link_53 fl_X9_10 sh_0 rfl rf_0 ?_
  refine xs_getr dX9_link_56 fl_X9_136 sh_1 rfl rf_67 ?_
  refine x_iload_n 1 dX9_link_59 rfl rfl ?_
  refine xs_iald 128 (v1.toNatClampNeg) dX9_link_60 sh_2 rfl rfl hb1 ?_
  exact xs_iret dX9_link_61 rfl rfl K
theorem bX9_link_62 {I : Nat → Nat → Int32} {L : Nat → Int64} {Q : Option Value → (Nat → Nat → Int32) → (Nat → Int64) → Prop} {v1 : Int32} (hb1 : vp_in v1 14) (K : Q (some (.int (I 192 (v1.toNatClampNeg)))) I L) : XS mX9_link 62 [(0, .ref 0), (1, .int v1)] [] I L Q := by
  refine x_aload_n 0 dX9_link_62 rfl rfl ?_
  refine xs_getr dX9_link_63 fl_X9_10 sh_0 rfl rf_0 ?_
  refine xs_getr dX9_link_66 fl_X9_139 sh_1 rfl rf_68 ?_
  refine x_iload_n 1 dX9_link_69 rfl rfl ?_
  refine xs_iald 192 (v1.toNatClampNeg) dX9_link_70 sh_3 rfl rfl hb1 ?_
  exact xs_iret dX9_link_71 rfl rfl K
theorem bX9_link_72 {I : Nat → Nat → Int32} {L : Nat → Int64} {Q : Option Value → (Nat → Nat → Int32) → (Nat → Int64) → Prop} {v1 : Int32} (hb1 : vp_in v1 14) (K : Q (some (.int (I 256 (v1.toNatClampNeg)))) I L) : XS mX9_link 72 [(0, .ref 0), (1, .int v1)] [] I L Q := by
  refine x_aload_n 0 dX9_link_72 rfl rfl ?_
  refine xs_getr dX9_link_73 fl_X9_10 sh_0 rfl rf_0 ?_
  refine xs_getr dX9_link_76 fl_X9_142 sh_1 rfl rf_69 ?_
  refine x_iload_n 1 dX9_link_79 rfl rfl ?_
  refine xs_iald 256 (v1.toNatClampNeg) dX9_link_80 sh_4 rfl rfl hb1 ?_
  exact xs_iret dX9_link_81 rfl rfl K
theorem bX9_link_82 {I : Nat → Nat → Int32} {L : Nat → Int64} {Q : Option Value → (Nat → Nat → Int32) → (Nat → Int64) → Prop} {v1 : Int32} (hb1 : vp_in v1 14) (K : Q (some (.int (I 320 (v1.toNatClampNeg)))) I L) : XS mX9_link 82 [(0, .ref 0), (1, .int v1)] [] I L Q := by
  refine x_aload_n 0 dX9_link_82 rfl rfl ?_
  refine xs_getr dX9_link_83 fl_X9_10 sh_0 rfl rf_0 ?_
  refine xs_getr dX9_link_86 fl_X9_145 sh_1 rfl rf_70 ?_
  refine x_iload_n 1 dX9_link_89 rfl rfl ?_
  refine xs_iald 320 (v1.toNatClampNeg) dX9_link_90 sh_5 rfl rfl hb1 ?_
  exact xs_iret dX9_link_91 rfl rfl K
theorem bX9_link_92 {I : Nat → Nat → Int32} {L : Nat → Int64} {Q : Option Value → (Nat → Nat → Int32) → (Nat → Int64) → Prop} {v1 : Int32}  (K : XS mX2_isUp 0 [(0, .ref 1), (1, .int v1)] [] I L (fun r I' L' => XS mX9_link 100 [] (r.toList ++ []) I' L' Q)) : XS mX9_link 92 [(0, .ref 0), (1, .int v1)] [] I L Q := by
  refine x_aload_n 0 dX9_link_92 rfl rfl ?_
  refine xs_getr dX9_link_93 fl_X9_10 sh_0 rfl rf_0 ?_
  refine x_iload_n 1 dX9_link_96 rfl rfl ?_
  refine x_sub [] rfl ?_
  exact xs_callV mX2_isUp [.int v1] [] 1 2 1 _ rfl dX9_link_97 ml_X9_148 qX2_isUp rfl ⟨Nat.le_of_ble_eq_true rfl, Nat.le_of_ble_eq_true rfl⟩ ⟨rfl, rfl⟩ (Nat.le_of_ble_eq_true rfl) sh_1 (by decide) rfl (Nat.le_of_ble_eq_true rfl) (K)
theorem bX9_link_100 {I : Nat → Nat → Int32} {L : Nat → Int64} {Q : Option Value → (Nat → Nat → Int32) → (Nat → Int64) → Prop} {s0 : Int32}  (K1 : (s0 = 0) → XS mX9_link 107 [] [] I L Q) (K2 : (¬ s0 = 0) → XS mX9_link 103 [] [] I L Q) : XS mX9_link 100 [] [.int s0] I L Q := by
  exact x_if_eq 107 dX9_link_100 (by decide) (fun h => K1 h) (fun h => K2 h)
theorem bX9_link_103 {I : Nat → Nat → Int32} {L : Nat → Int64} {Q : Option Value → (Nat → Nat → Int32) → (Nat → Int64) → Prop}   (K : XS mX9_link 108 [] [.int (1 : Int32)] I L Q) : XS mX9_link 103 [] [] I L Q := by
  refine x_iconst (v := (1 : Int32)) dX9_link_103 (by decide) ?_
  exact x_goto 108 dX9_link_104 (by decide) (K)
theorem bX9_link_107 {I : Nat → Nat → Int32} {L : Nat → Int64} {Q : Option Value → (Nat → Nat → Int32) → (Nat → Int64) → Prop}   (K : XS mX9_link 108 [] [.int (0 : Int32)] I L Q) : XS mX9_link 107 [] [] I L Q := by
  refine x_iconst (v := (0 : Int32)) dX9_link_107 (by decide) ?_
  exact K
theorem bX9_link_108 {I : Nat → Nat → Int32} {L : Nat → Int64} {Q : Option Value → (Nat → Nat → Int32) → (Nat → Int64) → Prop} {s0 : Int32}  (K : Q (some (.int s0)) I L) : XS mX9_link 108 [] [.int s0] I L Q := by
  exact xs_iret dX9_link_108 rfl rfl K
theorem bX9_link_109 {I : Nat → Nat → Int32} {L : Nat → Int64} {Q : Option Value → (Nat → Nat → Int32) → (Nat → Int64) → Prop} {v1 : Int32} (hb1 : vp_in v1 14) (K : Q (some (.int (I 384 (v1.toNatClampNeg)))) I L) : XS mX9_link 109 [(0, .ref 0), (1, .int v1)] [] I L Q := by
  refine x_aload_n 0 dX9_link_109 rfl rfl ?_
  refine xs_getr dX9_link_110 fl_X9_10 sh_0 rfl rf_0 ?_
  refine xs_getr dX9_link_113 fl_X9_103 sh_1 rfl rf_71 ?_
  refine x_iload_n 1 dX9_link_116 rfl rfl ?_
  refine xs_iald 384 (v1.toNatClampNeg) dX9_link_117 sh_6 rfl rfl hb1 ?_
  exact xs_iret dX9_link_118 rfl rfl K
theorem bX9_link_119 {I : Nat → Nat → Int32} {L : Nat → Int64} {Q : Option Value → (Nat → Nat → Int32) → (Nat → Int64) → Prop}   (K : Q (some (.int (-3 : Int32))) I L) : XS mX9_link 119 [] [] I L Q := by
  refine x_bipush (v := (-3 : Int32)) dX9_link_119 (by decide) ?_
  exact xs_iret dX9_link_121 rfl rfl K
theorem bX9_fail_0 {I : Nat → Nat → Int32} {L : Nat → Int64} {Q : Option Value → (Nat → Nat → Int32) → (Nat → Int64) → Prop} {v1 : Int32}  (K : XS mX2_hasLink 0 [(0, .ref 1), (1, .int v1)] [] I L (fun r I' L' => XS mX9_fail 8 [(0, .ref 0), (1, .int v1)] (r.toList ++ []) I' L' Q)) : XS mX9_fail 0 [(0, .ref 0), (1, .int v1)] [] I L Q := by
  refine x_aload_n 0 dX9_fail_0 rfl rfl ?_
  refine xs_getr dX9_fail_1 fl_X9_10 sh_0 rfl rf_0 ?_
  refine x_iload_n 1 dX9_fail_4 rfl rfl ?_
  exact xs_callV mX2_hasLink [.int v1] [] 1 2 1 _ rfl dX9_fail_5 ml_X9_133 qX2_hasLink rfl ⟨Nat.le_of_ble_eq_true rfl, Nat.le_of_ble_eq_true rfl⟩ ⟨rfl, rfl⟩ (Nat.le_of_ble_eq_true rfl) sh_1 (by decide) rfl (Nat.le_of_ble_eq_true rfl) (K)
theorem bX9_fail_8 {I : Nat → Nat → Int32} {L : Nat → Int64} {Q : Option Value → (Nat → Nat → Int32) → (Nat → Int64) → Prop} {v1 : Int32} {s0 : Int32}  (K1 : (¬ s0 = 0) → XS mX9_fail 14 [(0, .ref 0), (1, .int v1)] [] I L Q) (K2 : (s0 = 0) → XS mX9_fail 11 [] [] I L Q) : XS mX9_fail 8 [(0, .ref 0), (1, .int v1)] [.int s0] I L Q := by
  exact x_if_ne 14 dX9_fail_8 (by decide) (fun h => K1 h) (fun h => x_sub [] rfl (K2 h))
theorem bX9_fail_11 {I : Nat → Nat → Int32} {L : Nat → Int64} {Q : Option Value → (Nat → Nat → Int32) → (Nat → Int64) → Prop}   (K : Q (some (.int (-2 : Int32))) I L) : XS mX9_fail 11 [] [] I L Q := by
  refine x_bipush (v := (-2 : Int32)) dX9_fail_11 (by decide) ?_
  exact xs_iret dX9_fail_13 rfl rfl K
theorem bX9_fail_14 {I : Nat → Nat → Int32} {L : Nat → Int64} {Q : Option Value → (Nat → Nat → Int32) → (Nat → Int64) → Prop} {v1 : Int32}  (K : XS mX2_isUp 0 [(0, .ref 1), (1, .int v1)] [] I L (fun r I' L' => XS mX9_fail 22 [(0, .ref 0), (1, .int v1)] (r.toList ++ []) I' L' Q)) : XS mX9_fail 14 [(0, .ref 0), (1, .int v1)] [] I L Q := by
  refine x_aload_n 0 dX9_fail_14 rfl rfl ?_
  refine xs_getr dX9_fail_15 fl_X9_10 sh_0 rfl rf_0 ?_
  refine x_iload_n 1 dX9_fail_18 rfl rfl ?_
  exact xs_callV mX2_isUp [.int v1] [] 1 2 1 _ rfl dX9_fail_19 ml_X9_148 qX2_isUp rfl ⟨Nat.le_of_ble_eq_true rfl, Nat.le_of_ble_eq_true rfl⟩ ⟨rfl, rfl⟩ (Nat.le_of_ble_eq_true rfl) sh_1 (by decide) rfl (Nat.le_of_ble_eq_true rfl) (K)
theorem bX9_fail_22 {I : Nat → Nat → Int32} {L : Nat → Int64} {Q : Option Value → (Nat → Nat → Int32) → (Nat → Int64) → Prop} {v1 : Int32} {s0 : Int32}  (K1 : (s0 = 0) → XS mX9_fail 33 [] [] I L Q) (K2 : (¬ s0 = 0) → XS mX9_fail 25 [(0, .ref 0), (1, .int v1)] [] I L Q) : XS mX9_fail 22 [(0, .ref 0), (1, .int v1)] [.int s0] I L Q := by
  exact x_if_eq 33 dX9_fail_22 (by decide) (fun h => x_sub [] rfl (K1 h)) (fun h => K2 h)
theorem bX9_fail_25 {I : Nat → Nat → Int32} {L : Nat → Int64} {Q : Option Value → (Nat → Nat → Int32) → (Nat → Int64) → Prop} {v1 : Int32}  (K : XS mX9_turn 0 [(0, .ref 0), (1, .int v1)] [] I L (fun r I' L' => XS mX9_fail 30 [] (r.toList ++ []) I' L' Q)) : XS mX9_fail 25 [(0, .ref 0), (1, .int v1)] [] I L Q := by
  refine x_aload_n 0 dX9_fail_25 rfl rfl ?_
  refine x_iload_n 1 dX9_fail_26 rfl rfl ?_
  refine x_sub [] rfl ?_
  exact xs_callV mX9_turn [.int v1] [] 0 9 1 _ rfl dX9_fail_27 ml_X9_151 qX9_turn rfl ⟨Nat.le_of_ble_eq_true rfl, Nat.le_of_ble_eq_true rfl⟩ ⟨rfl, rfl⟩ (Nat.le_of_ble_eq_true rfl) sh_0 (by decide) rfl (Nat.le_of_ble_eq_true rfl) (K)
theorem bX9_fail_30 {I : Nat → Nat → Int32} {L : Nat → Int64} {Q : Option Value → (Nat → Nat → Int32) → (Nat → Int64) → Prop} {s0 : Int32}  (K : XS mX9_fail 35 [] [.int s0] I L Q) : XS mX9_fail 30 [] [.int s0] I L Q := by
  exact x_goto 35 dX9_fail_30 (by decide) (K)
theorem bX9_fail_33 {I : Nat → Nat → Int32} {L : Nat → Int64} {Q : Option Value → (Nat → Nat → Int32) → (Nat → Int64) → Prop}   (K : XS mX9_fail 35 [] [.int (-4 : Int32)] I L Q) : XS mX9_fail 33 [] [] I L Q := by
  refine x_bipush (v := (-4 : Int32)) dX9_fail_33 (by decide) ?_
  exact K
theorem bX9_fail_35 {I : Nat → Nat → Int32} {L : Nat → Int64} {Q : Option Value → (Nat → Nat → Int32) → (Nat → Int64) → Prop} {s0 : Int32}  (K : Q (some (.int s0)) I L) : XS mX9_fail 35 [] [.int s0] I L Q := by
  exact xs_iret dX9_fail_35 rfl rfl K
theorem bX9_heal_0 {I : Nat → Nat → Int32} {L : Nat → Int64} {Q : Option Value → (Nat → Nat → Int32) → (Nat → Int64) → Prop} {v1 : Int32}  (K : XS mX2_hasLink 0 [(0, .ref 1), (1, .int v1)] [] I L (fun r I' L' => XS mX9_heal 8 [(0, .ref 0), (1, .int v1)] (r.toList ++ []) I' L' Q)) : XS mX9_heal 0 [(0, .ref 0), (1, .int v1)] [] I L Q := by
  refine x_aload_n 0 dX9_heal_0 rfl rfl ?_
  refine xs_getr dX9_heal_1 fl_X9_10 sh_0 rfl rf_0 ?_
  refine x_iload_n 1 dX9_heal_4 rfl rfl ?_
  exact xs_callV mX2_hasLink [.int v1] [] 1 2 1 _ rfl dX9_heal_5 ml_X9_133 qX2_hasLink rfl ⟨Nat.le_of_ble_eq_true rfl, Nat.le_of_ble_eq_true rfl⟩ ⟨rfl, rfl⟩ (Nat.le_of_ble_eq_true rfl) sh_1 (by decide) rfl (Nat.le_of_ble_eq_true rfl) (K)
theorem bX9_heal_8 {I : Nat → Nat → Int32} {L : Nat → Int64} {Q : Option Value → (Nat → Nat → Int32) → (Nat → Int64) → Prop} {v1 : Int32} {s0 : Int32}  (K1 : (¬ s0 = 0) → XS mX9_heal 14 [(0, .ref 0), (1, .int v1)] [] I L Q) (K2 : (s0 = 0) → XS mX9_heal 11 [] [] I L Q) : XS mX9_heal 8 [(0, .ref 0), (1, .int v1)] [.int s0] I L Q := by
  exact x_if_ne 14 dX9_heal_8 (by decide) (fun h => K1 h) (fun h => x_sub [] rfl (K2 h))
theorem bX9_heal_11 {I : Nat → Nat → Int32} {L : Nat → Int64} {Q : Option Value → (Nat → Nat → Int32) → (Nat → Int64) → Prop}   (K : Q (some (.int (-2 : Int32))) I L) : XS mX9_heal 11 [] [] I L Q := by
  refine x_bipush (v := (-2 : Int32)) dX9_heal_11 (by decide) ?_
  exact xs_iret dX9_heal_13 rfl rfl K
theorem bX9_heal_14 {I : Nat → Nat → Int32} {L : Nat → Int64} {Q : Option Value → (Nat → Nat → Int32) → (Nat → Int64) → Prop} {v1 : Int32}  (K : XS mX2_isUp 0 [(0, .ref 1), (1, .int v1)] [] I L (fun r I' L' => XS mX9_heal 22 [(0, .ref 0), (1, .int v1)] (r.toList ++ []) I' L' Q)) : XS mX9_heal 14 [(0, .ref 0), (1, .int v1)] [] I L Q := by
  refine x_aload_n 0 dX9_heal_14 rfl rfl ?_
  refine xs_getr dX9_heal_15 fl_X9_10 sh_0 rfl rf_0 ?_
  refine x_iload_n 1 dX9_heal_18 rfl rfl ?_
  exact xs_callV mX2_isUp [.int v1] [] 1 2 1 _ rfl dX9_heal_19 ml_X9_148 qX2_isUp rfl ⟨Nat.le_of_ble_eq_true rfl, Nat.le_of_ble_eq_true rfl⟩ ⟨rfl, rfl⟩ (Nat.le_of_ble_eq_true rfl) sh_1 (by decide) rfl (Nat.le_of_ble_eq_true rfl) (K)
theorem bX9_heal_22 {I : Nat → Nat → Int32} {L : Nat → Int64} {Q : Option Value → (Nat → Nat → Int32) → (Nat → Int64) → Prop} {v1 : Int32} {s0 : Int32}  (K1 : (s0 = 0) → XS mX9_heal 30 [(0, .ref 0), (1, .int v1)] [] I L Q) (K2 : (¬ s0 = 0) → XS mX9_heal 25 [] [] I L Q) : XS mX9_heal 22 [(0, .ref 0), (1, .int v1)] [.int s0] I L Q := by
  exact x_if_eq 30 dX9_heal_22 (by decide) (fun h => K1 h) (fun h => x_sub [] rfl (K2 h))
theorem bX9_heal_25 {I : Nat → Nat → Int32} {L : Nat → Int64} {Q : Option Value → (Nat → Nat → Int32) → (Nat → Int64) → Prop}   (K : XS mX9_heal 35 [] [.int (-4 : Int32)] I L Q) : XS mX9_heal 25 [] [] I L Q := by
  refine x_bipush (v := (-4 : Int32)) dX9_heal_25 (by decide) ?_
  exact x_goto 35 dX9_heal_27 (by decide) (K)
theorem bX9_heal_30 {I : Nat → Nat → Int32} {L : Nat → Int64} {Q : Option Value → (Nat → Nat → Int32) → (Nat → Int64) → Prop} {v1 : Int32}  (K : XS mX9_turn 0 [(0, .ref 0), (1, .int v1)] [] I L (fun r I' L' => XS mX9_heal 35 [] (r.toList ++ []) I' L' Q)) : XS mX9_heal 30 [(0, .ref 0), (1, .int v1)] [] I L Q := by
  refine x_aload_n 0 dX9_heal_30 rfl rfl ?_
  refine x_iload_n 1 dX9_heal_31 rfl rfl ?_
  refine x_sub [] rfl ?_
  exact xs_callV mX9_turn [.int v1] [] 0 9 1 _ rfl dX9_heal_32 ml_X9_151 qX9_turn rfl ⟨Nat.le_of_ble_eq_true rfl, Nat.le_of_ble_eq_true rfl⟩ ⟨rfl, rfl⟩ (Nat.le_of_ble_eq_true rfl) sh_0 (by decide) rfl (Nat.le_of_ble_eq_true rfl) (K)
theorem bX9_heal_35 {I : Nat → Nat → Int32} {L : Nat → Int64} {Q : Option Value → (Nat → Nat → Int32) → (Nat → Int64) → Prop} {s0 : Int32}  (K : Q (some (.int s0)) I L) : XS mX9_heal 35 [] [.int s0] I L Q := by
  exact xs_iret dX9_heal_35 rfl rfl K
theorem bX9_turn_0 {I : Nat → Nat → Int32} {L : Nat → Int64} {Q : Option Value → (Nat → Nat → Int32) → (Nat → Int64) → Prop} {v1 : Int32}  (K : XS mX3_keepUp 0 [(0, .ref 11)] [] I L (fun r I' L' => XS mX9_turn 7 [(0, .ref 0), (1, .int v1)] (r.toList ++ []) I' L' Q)) : XS mX9_turn 0 [(0, .ref 0), (1, .int v1)] [] I L Q := by
  refine x_aload_n 0 dX9_turn_0 rfl rfl ?_
  refine xs_getr dX9_turn_1 fl_X9_28 sh_0 rfl rf_2 ?_
  exact xs_callV mX3_keepUp [] [] 11 3 0 _ rfl dX9_turn_4 ml_X9_155 qX3_keepUp rfl ⟨Nat.le_of_ble_eq_true rfl, Nat.le_of_ble_eq_true rfl⟩ ⟨rfl, rfl⟩ (Nat.le_of_ble_eq_true rfl) sh_11 (by decide) rfl (Nat.le_of_ble_eq_true rfl) (K)
theorem bX9_turn_7 {I : Nat → Nat → Int32} {L : Nat → Int64} {Q : Option Value → (Nat → Nat → Int32) → (Nat → Int64) → Prop} {v1 : Int32}  (K : XS mJ6_bitCount_0f7a4 0 [(0, .int ((x_up I 66 0 ((I 66 0) ^^^ ((1 : Int32) <<< (v1 &&& 31)))) 66 0))] [] (x_up I 66 0 ((I 66 0) ^^^ ((1 : Int32) <<< (v1 &&& 31)))) L (fun r I' L' => XS mX9_turn 32 [] (r.toList ++ []) I' L' Q)) : XS mX9_turn 7 [(0, .ref 0), (1, .int v1)] [] I L Q := by
  refine x_aload_n 0 dX9_turn_7 rfl rfl ?_
  refine xs_getr dX9_turn_8 fl_X9_10 sh_0 rfl rf_0 ?_
  refine x_dup dX9_turn_11 rfl ?_
  refine xs_geti 66 dX9_turn_12 fl_X9_158 sh_1 rfl rfl ?_
  refine x_iconst (v := (1 : Int32)) dX9_turn_15 (by decide) ?_
  refine x_iload_n 1 dX9_turn_16 rfl rfl ?_
  refine x_ishl dX9_turn_17 ?_
  refine x_ixor dX9_turn_18 ?_
  refine xs_puti 66 dX9_turn_19 fl_X9_158 sh_1 rfl rfl rfl ?_
  refine x_aload_n 0 dX9_turn_22 rfl rfl ?_
  refine xs_getr dX9_turn_23 fl_X9_10 sh_0 rfl rf_0 ?_
  refine xs_geti 66 dX9_turn_26 fl_X9_158 sh_1 rfl rfl ?_
  refine x_sub [] rfl ?_
  exact xs_callS mJ6_bitCount_0f7a4 [.int ((x_up I 66 0 ((I 66 0) ^^^ ((1 : Int32) <<< (v1 &&& 31)))) 66 0)] [] 1 _ rfl dX9_turn_29 ml_X9_161 qJ6_bitCount_0f7a4 rfl ⟨Nat.le_of_ble_eq_true rfl, Nat.le_of_ble_eq_true rfl⟩ ⟨rfl, rfl⟩ (Nat.le_of_ble_eq_true rfl) (Nat.le_of_ble_eq_true rfl) (K)
theorem bX9_turn_32 {I : Nat → Nat → Int32} {L : Nat → Int64} {Q : Option Value → (Nat → Nat → Int32) → (Nat → Int64) → Prop} {s0 : Int32}  (K : Q (some (.int s0)) I L) : XS mX9_turn 32 [] [.int s0] I L Q := by
  exact xs_iret dX9_turn_32 rfl rfl K
theorem bX9_tune_0 {I : Nat → Nat → Int32} {L : Nat → Int64} {Q : Option Value → (Nat → Nat → Int32) → (Nat → Int64) → Prop} {v1 : Int32} {v2 : Int32} {v3 : Int32}  (K : XS mX2_hasLink 0 [(0, .ref 1), (1, .int v1)] [] I L (fun r I' L' => XS mX9_tune 8 [(0, .ref 0), (1, .int v1), (2, .int v2), (3, .int v3)] (r.toList ++ []) I' L' Q)) : XS mX9_tune 0 [(0, .ref 0), (1, .int v1), (2, .int v2), (3, .int v3)] [] I L Q := by
  refine x_aload_n 0 dX9_tune_0 rfl rfl ?_
  refine xs_getr dX9_tune_1 fl_X9_10 sh_0 rfl rf_0 ?_
  refine x_iload_n 1 dX9_tune_4 rfl rfl ?_
  exact xs_callV mX2_hasLink [.int v1] [] 1 2 1 _ rfl dX9_tune_5 ml_X9_133 qX2_hasLink rfl ⟨Nat.le_of_ble_eq_true rfl, Nat.le_of_ble_eq_true rfl⟩ ⟨rfl, rfl⟩ (Nat.le_of_ble_eq_true rfl) sh_1 (by decide) rfl (Nat.le_of_ble_eq_true rfl) (K)
theorem bX9_tune_8 {I : Nat → Nat → Int32} {L : Nat → Int64} {Q : Option Value → (Nat → Nat → Int32) → (Nat → Int64) → Prop} {v1 : Int32} {v2 : Int32} {v3 : Int32} {s0 : Int32}  (K1 : (¬ s0 = 0) → XS mX9_tune 14 [(0, .ref 0), (1, .int v1), (2, .int v2), (3, .int v3)] [] I L Q) (K2 : (s0 = 0) → XS mX9_tune 11 [] [] I L Q) : XS mX9_tune 8 [(0, .ref 0), (1, .int v1), (2, .int v2), (3, .int v3)] [.int s0] I L Q := by
  exact x_if_ne 14 dX9_tune_8 (by decide) (fun h => K1 h) (fun h => x_sub [] rfl (K2 h))
theorem bX9_tune_11 {I : Nat → Nat → Int32} {L : Nat → Int64} {Q : Option Value → (Nat → Nat → Int32) → (Nat → Int64) → Prop}   (K : Q (some (.int (-2 : Int32))) I L) : XS mX9_tune 11 [] [] I L Q := by
  refine x_bipush (v := (-2 : Int32)) dX9_tune_11 (by decide) ?_
  exact xs_iret dX9_tune_13 rfl rfl K
theorem bX9_tune_14 {I : Nat → Nat → Int32} {L : Nat → Int64} {Q : Option Value → (Nat → Nat → Int32) → (Nat → Int64) → Prop} {v1 : Int32} {v2 : Int32} {v3 : Int32}  (K1 : (v2 < (1 : Int32)) → XS mX9_tune 36 [] [] I L Q) (K2 : (¬ v2 < (1 : Int32)) → XS mX9_tune 19 [(0, .ref 0), (1, .int v1), (2, .int v2), (3, .int v3)] [] I L Q) : XS mX9_tune 14 [(0, .ref 0), (1, .int v1), (2, .int v2), (3, .int v3)] [] I L Q := by
  refine x_iload_n 2 dX9_tune_14 rfl rfl ?_
  refine x_iconst (v := (1 : Int32)) dX9_tune_15 (by decide) ?_
  exact x_icmp_lt 36 dX9_tune_16 (by decide) (fun h => x_sub [] rfl (K1 h)) (fun h => K2 h)
theorem bX9_tune_19 {I : Nat → Nat → Int32} {L : Nat → Int64} {Q : Option Value → (Nat → Nat → Int32) → (Nat → Int64) → Prop} {v1 : Int32} {v2 : Int32} {v3 : Int32}  (K1 : ((9 : Int32) < v2) → XS mX9_tune 36 [] [] I L Q) (K2 : (¬ (9 : Int32) < v2) → XS mX9_tune 25 [(0, .ref 0), (1, .int v1), (2, .int v2), (3, .int v3)] [] I L Q) : XS mX9_tune 19 [(0, .ref 0), (1, .int v1), (2, .int v2), (3, .int v3)] [] I L Q := by
  refine x_iload_n 2 dX9_tune_19 rfl rfl ?_
  refine x_bipush (v := (9 : Int32)) dX9_tune_20 (by decide) ?_
  exact x_icmp_gt 36 dX9_tune_22 (by decide) (fun h => x_sub [] rfl (K1 h)) (fun h => K2 h)
theorem bX9_tune_25 {I : Nat → Nat → Int32} {L : Nat → Int64} {Q : Option Value → (Nat → Nat → Int32) → (Nat → Int64) → Prop} {v1 : Int32} {v2 : Int32} {v3 : Int32}  (K1 : (v3 < (1 : Int32)) → XS mX9_tune 36 [] [] I L Q) (K2 : (¬ v3 < (1 : Int32)) → XS mX9_tune 30 [(0, .ref 0), (1, .int v1), (2, .int v2), (3, .int v3)] [] I L Q) : XS mX9_tune 25 [(0, .ref 0), (1, .int v1), (2, .int v2), (3, .int v3)] [] I L Q := by
  refine x_iload_n 3 dX9_tune_25 rfl rfl ?_
  refine x_iconst (v := (1 : Int32)) dX9_tune_26 (by decide) ?_
  exact x_icmp_lt 36 dX9_tune_27 (by decide) (fun h => x_sub [] rfl (K1 h)) (fun h => K2 h)
theorem bX9_tune_30 {I : Nat → Nat → Int32} {L : Nat → Int64} {Q : Option Value → (Nat → Nat → Int32) → (Nat → Int64) → Prop} {v1 : Int32} {v2 : Int32} {v3 : Int32}  (K1 : (v3 ≤ (9 : Int32)) → XS mX9_tune 39 [(0, .ref 0), (1, .int v1), (2, .int v2), (3, .int v3)] [] I L Q) (K2 : (¬ v3 ≤ (9 : Int32)) → XS mX9_tune 36 [] [] I L Q) : XS mX9_tune 30 [(0, .ref 0), (1, .int v1), (2, .int v2), (3, .int v3)] [] I L Q := by
  refine x_iload_n 3 dX9_tune_30 rfl rfl ?_
  refine x_bipush (v := (9 : Int32)) dX9_tune_31 (by decide) ?_
  exact x_icmp_le 39 dX9_tune_33 (by decide) (fun h => K1 h) (fun h => x_sub [] rfl (K2 h))
theorem bX9_tune_36 {I : Nat → Nat → Int32} {L : Nat → Int64} {Q : Option Value → (Nat → Nat → Int32) → (Nat → Int64) → Prop}   (K : Q (some (.int (-3 : Int32))) I L) : XS mX9_tune 36 [] [] I L Q := by
  refine x_bipush (v := (-3 : Int32)) dX9_tune_36 (by decide) ?_
  exact xs_iret dX9_tune_38 rfl rfl K
theorem bX9_tune_39 {I : Nat → Nat → Int32} {L : Nat → Int64} {Q : Option Value → (Nat → Nat → Int32) → (Nat → Int64) → Prop} {v1 : Int32} {v2 : Int32} {v3 : Int32} (hb1 : vp_in v1 14) (K : XS mX3_keepPrices 0 [(0, .ref 11), (1, .int v1)] [] I L (fun r I' L' => XS mX9_tune 58 [(0, .ref 0), (1, .int v1), (2, .int v2), (3, .int v3), (4, .int (I 256 (v1.toNatClampNeg)))] (r.toList ++ []) I' L' Q)) : XS mX9_tune 39 [(0, .ref 0), (1, .int v1), (2, .int v2), (3, .int v3)] [] I L Q := by
  refine x_aload_n 0 dX9_tune_39 rfl rfl ?_
  refine xs_getr dX9_tune_40 fl_X9_10 sh_0 rfl rf_0 ?_
  refine xs_getr dX9_tune_43 fl_X9_142 sh_1 rfl rf_69 ?_
  refine x_iload_n 1 dX9_tune_46 rfl rfl ?_
  refine xs_iald 256 (v1.toNatClampNeg) dX9_tune_47 sh_4 rfl rfl hb1 ?_
  refine x_istore [(0, .ref 0), (1, .int v1), (2, .int v2), (3, .int v3), (4, .int (I 256 (v1.toNatClampNeg)))] dX9_tune_48 (Nat.le_of_ble_eq_true rfl) rfl ?_
  refine x_aload_n 0 dX9_tune_50 rfl rfl ?_
  refine xs_getr dX9_tune_51 fl_X9_28 sh_0 rfl rf_2 ?_
  refine x_iload_n 1 dX9_tune_54 rfl rfl ?_
  exact xs_callV mX3_keepPrices [.int v1] [] 11 3 1 _ rfl dX9_tune_55 ml_X9_166 qX3_keepPrices rfl ⟨Nat.le_of_ble_eq_true rfl, Nat.le_of_ble_eq_true rfl⟩ ⟨rfl, rfl⟩ (Nat.le_of_ble_eq_true rfl) sh_11 (by decide) rfl (Nat.le_of_ble_eq_true rfl) (K)
theorem bX9_tune_58 {I : Nat → Nat → Int32} {L : Nat → Int64} {Q : Option Value → (Nat → Nat → Int32) → (Nat → Int64) → Prop} {v1 : Int32} {v2 : Int32} {v3 : Int32} {v4 : Int32} (hb1 : vp_in v1 14) (hb2 : vp_in v1 14) (K : Q (some (.int v4)) (x_up (x_up I 256 (v1.toNatClampNeg) v2) 320 (v1.toNatClampNeg) v3) L) : XS mX9_tune 58 [(0, .ref 0), (1, .int v1), (2, .int v2), (3, .int v3), (4, .int v4)] [] I L Q := by
  refine x_aload_n 0 dX9_tune_58 rfl rfl ?_
  refine xs_getr dX9_tune_59 fl_X9_10 sh_0 rfl rf_0 ?_
  refine xs_getr dX9_tune_62 fl_X9_142 sh_1 rfl rf_69 ?_
  refine x_iload_n 1 dX9_tune_65 rfl rfl ?_
  refine x_iload_n 2 dX9_tune_66 rfl rfl ?_
  refine xs_iast 256 (v1.toNatClampNeg) dX9_tune_67 sh_4 rfl rfl hb1 ?_
  refine x_aload_n 0 dX9_tune_68 rfl rfl ?_
  refine xs_getr dX9_tune_69 fl_X9_10 sh_0 rfl rf_0 ?_
  refine xs_getr dX9_tune_72 fl_X9_145 sh_1 rfl rf_70 ?_
  refine x_iload_n 1 dX9_tune_75 rfl rfl ?_
  refine x_iload_n 3 dX9_tune_76 rfl rfl ?_
  refine xs_iast 320 (v1.toNatClampNeg) dX9_tune_77 sh_5 rfl rfl hb2 ?_
  refine x_iload 4 dX9_tune_78 rfl ?_
  exact xs_iret dX9_tune_80 rfl rfl K
theorem bX9_learn_0 {I : Nat → Nat → Int32} {L : Nat → Int64} {Q : Option Value → (Nat → Nat → Int32) → (Nat → Int64) → Prop} {v1 : Int32}  (K : XS mX2_hasNode 0 [(0, .ref 1), (1, .int v1)] [] I L (fun r I' L' => XS mX9_learn 8 [(0, .ref 0), (1, .int v1)] (r.toList ++ []) I' L' Q)) : XS mX9_learn 0 [(0, .ref 0), (1, .int v1)] [] I L Q := by
  refine x_aload_n 0 dX9_learn_0 rfl rfl ?_
  refine xs_getr dX9_learn_1 fl_X9_10 sh_0 rfl rf_0 ?_
  refine x_iload_n 1 dX9_learn_4 rfl rfl ?_
  exact xs_callV mX2_hasNode [.int v1] [] 1 2 1 _ rfl dX9_learn_5 ml_X9_169 qX2_hasNode rfl ⟨Nat.le_of_ble_eq_true rfl, Nat.le_of_ble_eq_true rfl⟩ ⟨rfl, rfl⟩ (Nat.le_of_ble_eq_true rfl) sh_1 (by decide) rfl (Nat.le_of_ble_eq_true rfl) (K)
theorem bX9_learn_8 {I : Nat → Nat → Int32} {L : Nat → Int64} {Q : Option Value → (Nat → Nat → Int32) → (Nat → Int64) → Prop} {v1 : Int32} {s0 : Int32}  (K1 : (¬ s0 = 0) → XS mX9_learn 14 [(0, .ref 0), (1, .int v1)] [] I L Q) (K2 : (s0 = 0) → XS mX9_learn 11 [] [] I L Q) : XS mX9_learn 8 [(0, .ref 0), (1, .int v1)] [.int s0] I L Q := by
  exact x_if_ne 14 dX9_learn_8 (by decide) (fun h => K1 h) (fun h => x_sub [] rfl (K2 h))
theorem bX9_learn_11 {I : Nat → Nat → Int32} {L : Nat → Int64} {Q : Option Value → (Nat → Nat → Int32) → (Nat → Int64) → Prop}   (K : Q (some (.int (-2 : Int32))) I L) : XS mX9_learn 11 [] [] I L Q := by
  refine x_bipush (v := (-2 : Int32)) dX9_learn_11 (by decide) ?_
  exact xs_iret dX9_learn_13 rfl rfl K
theorem bX9_learn_14 {I : Nat → Nat → Int32} {L : Nat → Int64} {Q : Option Value → (Nat → Nat → Int32) → (Nat → Int64) → Prop} {v1 : Int32} (hb1 : vp_in v1 8) (K : XS mJ6_bitCount_0f7a4 0 [(0, .int ((I 448 (v1.toNatClampNeg)) ^^^ (I 66 0)))] [] I L (fun r I' L' => XS mX9_learn 34 [(0, .ref 0), (1, .int v1)] (r.toList ++ []) I' L' Q)) : XS mX9_learn 14 [(0, .ref 0), (1, .int v1)] [] I L Q := by
  refine x_aload_n 0 dX9_learn_14 rfl rfl ?_
  refine xs_getr dX9_learn_15 fl_X9_10 sh_0 rfl rf_0 ?_
  refine xs_getr dX9_learn_18 fl_X9_172 sh_1 rfl rf_72 ?_
  refine x_iload_n 1 dX9_learn_21 rfl rfl ?_
  refine xs_iald 448 (v1.toNatClampNeg) dX9_learn_22 sh_7 rfl rfl hb1 ?_
  refine x_aload_n 0 dX9_learn_23 rfl rfl ?_
  refine xs_getr dX9_learn_24 fl_X9_10 sh_0 rfl rf_0 ?_
  refine xs_geti 66 dX9_learn_27 fl_X9_158 sh_1 rfl rfl ?_
  refine x_ixor dX9_learn_30 ?_
  exact xs_callS mJ6_bitCount_0f7a4 [.int ((I 448 (v1.toNatClampNeg)) ^^^ (I 66 0))] [] 1 _ rfl dX9_learn_31 ml_X9_161 qJ6_bitCount_0f7a4 rfl ⟨Nat.le_of_ble_eq_true rfl, Nat.le_of_ble_eq_true rfl⟩ ⟨rfl, rfl⟩ (Nat.le_of_ble_eq_true rfl) (Nat.le_of_ble_eq_true rfl) (K)
theorem bX9_learn_34 {I : Nat → Nat → Int32} {L : Nat → Int64} {Q : Option Value → (Nat → Nat → Int32) → (Nat → Int64) → Prop} {v1 : Int32} {s0 : Int32}  (K : XS mX3_keepSeen 0 [(0, .ref 11), (1, .int v1)] [] I L (fun r I' L' => XS mX9_learn 43 [(0, .ref 0), (1, .int v1), (2, .int s0)] (r.toList ++ []) I' L' Q)) : XS mX9_learn 34 [(0, .ref 0), (1, .int v1)] [.int s0] I L Q := by
  refine x_istore_n [(0, .ref 0), (1, .int v1), (2, .int s0)] dX9_learn_34 rfl (Nat.le_of_ble_eq_true rfl) rfl ?_
  refine x_aload_n 0 dX9_learn_35 rfl rfl ?_
  refine xs_getr dX9_learn_36 fl_X9_28 sh_0 rfl rf_2 ?_
  refine x_iload_n 1 dX9_learn_39 rfl rfl ?_
  exact xs_callV mX3_keepSeen [.int v1] [] 11 3 1 _ rfl dX9_learn_40 ml_X9_175 qX3_keepSeen rfl ⟨Nat.le_of_ble_eq_true rfl, Nat.le_of_ble_eq_true rfl⟩ ⟨rfl, rfl⟩ (Nat.le_of_ble_eq_true rfl) sh_11 (by decide) rfl (Nat.le_of_ble_eq_true rfl) (K)
theorem bX9_learn_43 {I : Nat → Nat → Int32} {L : Nat → Int64} {Q : Option Value → (Nat → Nat → Int32) → (Nat → Int64) → Prop} {v1 : Int32} {v2 : Int32} (hb1 : vp_in v1 8) (K : Q (some (.int v2)) (x_up I 448 (v1.toNatClampNeg) (I 66 0)) L) : XS mX9_learn 43 [(0, .ref 0), (1, .int v1), (2, .int v2)] [] I L Q := by
  refine x_aload_n 0 dX9_learn_43 rfl rfl ?_
  refine xs_getr dX9_learn_44 fl_X9_10 sh_0 rfl rf_0 ?_
  refine xs_getr dX9_learn_47 fl_X9_172 sh_1 rfl rf_72 ?_
  refine x_iload_n 1 dX9_learn_50 rfl rfl ?_
  refine x_aload_n 0 dX9_learn_51 rfl rfl ?_
  refine xs_getr dX9_learn_52 fl_X9_10 sh_0 rfl rf_0 ?_
  refine xs_geti 66 dX9_learn_55 fl_X9_158 sh_1 rfl rfl ?_
  refine xs_iast 448 (v1.toNatClampNeg) dX9_learn_58 sh_7 rfl rfl hb1 ?_
  refine x_iload_n 2 dX9_learn_59 rfl rfl ?_
  exact xs_iret dX9_learn_60 rfl rfl K
theorem bX9_undo_0 {I : Nat → Nat → Int32} {L : Nat → Int64} {Q : Option Value → (Nat → Nat → Int32) → (Nat → Int64) → Prop}   (K1 : (¬ (I 710 0) = 0) → XS mX9_undo 13 [(0, .ref 0)] [] I L Q) (K2 : ((I 710 0) = 0) → XS mX9_undo 10 [] [] I L Q) : XS mX9_undo 0 [(0, .ref 0)] [] I L Q := by
  refine x_aload_n 0 dX9_undo_0 rfl rfl ?_
  refine xs_getr dX9_undo_1 fl_X9_28 sh_0 rfl rf_2 ?_
  refine xs_geti 710 dX9_undo_4 fl_X9_97 sh_11 rfl rfl ?_
  exact x_if_ne 13 dX9_undo_7 (by decide) (fun h => K1 h) (fun h => x_sub [] rfl (K2 h))
theorem bX9_undo_10 {I : Nat → Nat → Int32} {L : Nat → Int64} {Q : Option Value → (Nat → Nat → Int32) → (Nat → Int64) → Prop}   (K : Q (some (.int (-4 : Int32))) I L) : XS mX9_undo 10 [] [] I L Q := by
  refine x_bipush (v := (-4 : Int32)) dX9_undo_10 (by decide) ?_
  exact xs_iret dX9_undo_12 rfl rfl K
theorem bX9_undo_13 {I : Nat → Nat → Int32} {L : Nat → Int64} {Q : Option Value → (Nat → Nat → Int32) → (Nat → Int64) → Prop}   (K : XS mX3_takeBack 0 [(0, .ref 11)] [] I L (fun r I' L' => XS mX9_undo 20 [(0, .ref 0)] (r.toList ++ []) I' L' Q)) : XS mX9_undo 13 [(0, .ref 0)] [] I L Q := by
  refine x_aload_n 0 dX9_undo_13 rfl rfl ?_
  refine xs_getr dX9_undo_14 fl_X9_28 sh_0 rfl rf_2 ?_
  exact xs_callV mX3_takeBack [] [] 11 3 0 _ rfl dX9_undo_17 ml_X9_178 qX3_takeBack rfl ⟨Nat.le_of_ble_eq_true rfl, Nat.le_of_ble_eq_true rfl⟩ ⟨rfl, rfl⟩ (Nat.le_of_ble_eq_true rfl) sh_11 (by decide) rfl (Nat.le_of_ble_eq_true rfl) (K)
theorem bX9_undo_20 {I : Nat → Nat → Int32} {L : Nat → Int64} {Q : Option Value → (Nat → Nat → Int32) → (Nat → Int64) → Prop}   (K : Q (some (.int (I 710 0))) I L) : XS mX9_undo 20 [(0, .ref 0)] [] I L Q := by
  refine x_aload_n 0 dX9_undo_20 rfl rfl ?_
  refine xs_getr dX9_undo_21 fl_X9_28 sh_0 rfl rf_2 ?_
  refine xs_geti 710 dX9_undo_24 fl_X9_97 sh_11 rfl rfl ?_
  exact xs_iret dX9_undo_27 rfl rfl K
theorem bX9_seen_0 {I : Nat → Nat → Int32} {L : Nat → Int64} {Q : Option Value → (Nat → Nat → Int32) → (Nat → Int64) → Prop} {v1 : Int32}  (K : XS mX2_hasNode 0 [(0, .ref 1), (1, .int v1)] [] I L (fun r I' L' => XS mX9_seen 8 [(0, .ref 0), (1, .int v1)] (r.toList ++ []) I' L' Q)) : XS mX9_seen 0 [(0, .ref 0), (1, .int v1)] [] I L Q := by
  refine x_aload_n 0 dX9_seen_0 rfl rfl ?_
  refine xs_getr dX9_seen_1 fl_X9_10 sh_0 rfl rf_0 ?_
  refine x_iload_n 1 dX9_seen_4 rfl rfl ?_
  exact xs_callV mX2_hasNode [.int v1] [] 1 2 1 _ rfl dX9_seen_5 ml_X9_169 qX2_hasNode rfl ⟨Nat.le_of_ble_eq_true rfl, Nat.le_of_ble_eq_true rfl⟩ ⟨rfl, rfl⟩ (Nat.le_of_ble_eq_true rfl) sh_1 (by decide) rfl (Nat.le_of_ble_eq_true rfl) (K)
theorem bX9_seen_8 {I : Nat → Nat → Int32} {L : Nat → Int64} {Q : Option Value → (Nat → Nat → Int32) → (Nat → Int64) → Prop} {v1 : Int32} {s0 : Int32}  (K1 : (s0 = 0) → XS mX9_seen 23 [] [] I L Q) (K2 : (¬ s0 = 0) → XS mX9_seen 11 [(0, .ref 0), (1, .int v1)] [] I L Q) : XS mX9_seen 8 [(0, .ref 0), (1, .int v1)] [.int s0] I L Q := by
  exact x_if_eq 23 dX9_seen_8 (by decide) (fun h => x_sub [] rfl (K1 h)) (fun h => K2 h)
theorem bX9_seen_11 {I : Nat → Nat → Int32} {L : Nat → Int64} {Q : Option Value → (Nat → Nat → Int32) → (Nat → Int64) → Prop} {v1 : Int32} (hb1 : vp_in v1 8) (K : XS mX9_seen 25 [] [.int (I 448 (v1.toNatClampNeg))] I L Q) : XS mX9_seen 11 [(0, .ref 0), (1, .int v1)] [] I L Q := by
  refine x_aload_n 0 dX9_seen_11 rfl rfl ?_
  refine xs_getr dX9_seen_12 fl_X9_10 sh_0 rfl rf_0 ?_
  refine xs_getr dX9_seen_15 fl_X9_172 sh_1 rfl rf_72 ?_
  refine x_iload_n 1 dX9_seen_18 rfl rfl ?_
  refine xs_iald 448 (v1.toNatClampNeg) dX9_seen_19 sh_7 rfl rfl hb1 ?_
  exact x_goto 25 dX9_seen_20 (by decide) (x_sub [] rfl (K))
theorem bX9_seen_23 {I : Nat → Nat → Int32} {L : Nat → Int64} {Q : Option Value → (Nat → Nat → Int32) → (Nat → Int64) → Prop}   (K : XS mX9_seen 25 [] [.int (-2 : Int32)] I L Q) : XS mX9_seen 23 [] [] I L Q := by
  refine x_bipush (v := (-2 : Int32)) dX9_seen_23 (by decide) ?_
  exact K
theorem bX9_seen_25 {I : Nat → Nat → Int32} {L : Nat → Int64} {Q : Option Value → (Nat → Nat → Int32) → (Nat → Int64) → Prop} {s0 : Int32}  (K : Q (some (.int s0)) I L) : XS mX9_seen 25 [] [.int s0] I L Q := by
  exact xs_iret dX9_seen_25 rfl rfl K
theorem bX9_next_0 {I : Nat → Nat → Int32} {L : Nat → Int64} {Q : Option Value → (Nat → Nat → Int32) → (Nat → Int64) → Prop} {v1 : Int32} {v2 : Int32} {v3 : Int32}  (K : XS mX2_hasNode 0 [(0, .ref 1), (1, .int v1)] [] I L (fun r I' L' => XS mX9_next 8 [(0, .ref 0), (1, .int v1), (2, .int v2), (3, .int v3)] (r.toList ++ []) I' L' Q)) : XS mX9_next 0 [(0, .ref 0), (1, .int v1), (2, .int v2), (3, .int v3)] [] I L Q := by
  refine x_aload_n 0 dX9_next_0 rfl rfl ?_
  refine xs_getr dX9_next_1 fl_X9_10 sh_0 rfl rf_0 ?_
  refine x_iload_n 1 dX9_next_4 rfl rfl ?_
  exact xs_callV mX2_hasNode [.int v1] [] 1 2 1 _ rfl dX9_next_5 ml_X9_169 qX2_hasNode rfl ⟨Nat.le_of_ble_eq_true rfl, Nat.le_of_ble_eq_true rfl⟩ ⟨rfl, rfl⟩ (Nat.le_of_ble_eq_true rfl) sh_1 (by decide) rfl (Nat.le_of_ble_eq_true rfl) (K)
theorem bX9_next_8 {I : Nat → Nat → Int32} {L : Nat → Int64} {Q : Option Value → (Nat → Nat → Int32) → (Nat → Int64) → Prop} {v1 : Int32} {v2 : Int32} {v3 : Int32} {s0 : Int32}  (K1 : (s0 = 0) → XS mX9_next 22 [] [] I L Q) (K2 : (¬ s0 = 0) → XS mX9_next 11 [(0, .ref 0), (1, .int v1), (2, .int v2), (3, .int v3)] [] I L Q) : XS mX9_next 8 [(0, .ref 0), (1, .int v1), (2, .int v2), (3, .int v3)] [.int s0] I L Q := by
  exact x_if_eq 22 dX9_next_8 (by decide) (fun h => x_sub [] rfl (K1 h)) (fun h => K2 h)
theorem bX9_next_11 {I : Nat → Nat → Int32} {L : Nat → Int64} {Q : Option Value → (Nat → Nat → Int32) → (Nat → Int64) → Prop} {v1 : Int32} {v2 : Int32} {v3 : Int32}  (K : XS mX2_hasNode 0 [(0, .ref 1), (1, .int v2)] [] I L (fun r I' L' => XS mX9_next 19 [(0, .ref 0), (1, .int v1), (2, .int v2), (3, .int v3)] (r.toList ++ []) I' L' Q)) : XS mX9_next 11 [(0, .ref 0), (1, .int v1), (2, .int v2), (3, .int v3)] [] I L Q := by
  refine x_aload_n 0 dX9_next_11 rfl rfl ?_
  refine xs_getr dX9_next_12 fl_X9_10 sh_0 rfl rf_0 ?_
  refine x_iload_n 2 dX9_next_15 rfl rfl ?_
  exact xs_callV mX2_hasNode [.int v2] [] 1 2 1 _ rfl dX9_next_16 ml_X9_169 qX2_hasNode rfl ⟨Nat.le_of_ble_eq_true rfl, Nat.le_of_ble_eq_true rfl⟩ ⟨rfl, rfl⟩ (Nat.le_of_ble_eq_true rfl) sh_1 (by decide) rfl (Nat.le_of_ble_eq_true rfl) (K)
theorem bX9_next_19 {I : Nat → Nat → Int32} {L : Nat → Int64} {Q : Option Value → (Nat → Nat → Int32) → (Nat → Int64) → Prop} {v1 : Int32} {v2 : Int32} {v3 : Int32} {s0 : Int32}  (K1 : (¬ s0 = 0) → XS mX9_next 25 [(0, .ref 0), (1, .int v1), (2, .int v2), (3, .int v3)] [] I L Q) (K2 : (s0 = 0) → XS mX9_next 22 [] [] I L Q) : XS mX9_next 19 [(0, .ref 0), (1, .int v1), (2, .int v2), (3, .int v3)] [.int s0] I L Q := by
  exact x_if_ne 25 dX9_next_19 (by decide) (fun h => K1 h) (fun h => x_sub [] rfl (K2 h))
theorem bX9_next_22 {I : Nat → Nat → Int32} {L : Nat → Int64} {Q : Option Value → (Nat → Nat → Int32) → (Nat → Int64) → Prop}   (K : Q (some (.int (-2 : Int32))) I L) : XS mX9_next 22 [] [] I L Q := by
  refine x_bipush (v := (-2 : Int32)) dX9_next_22 (by decide) ?_
  exact xs_iret dX9_next_24 rfl rfl K
theorem bX9_next_25 {I : Nat → Nat → Int32} {L : Nat → Int64} {Q : Option Value → (Nat → Nat → Int32) → (Nat → Int64) → Prop} {v1 : Int32} {v2 : Int32} {v3 : Int32}  (K1 : (v3 = 0) → XS mX9_next 37 [(0, .ref 0), (1, .int v1), (2, .int v2), (3, .int v3)] [] I L Q) (K2 : (¬ v3 = 0) → XS mX9_next 29 [(0, .ref 0), (1, .int v1), (2, .int v2), (3, .int v3)] [] I L Q) : XS mX9_next 25 [(0, .ref 0), (1, .int v1), (2, .int v2), (3, .int v3)] [] I L Q := by
  refine x_iload_n 3 dX9_next_25 rfl rfl ?_
  exact x_if_eq 37 dX9_next_26 (by decide) (fun h => K1 h) (fun h => K2 h)
theorem bX9_next_29 {I : Nat → Nat → Int32} {L : Nat → Int64} {Q : Option Value → (Nat → Nat → Int32) → (Nat → Int64) → Prop} {v1 : Int32} {v2 : Int32} {v3 : Int32}  (K1 : (v3 = (1 : Int32)) → XS mX9_next 37 [(0, .ref 0), (1, .int v1), (2, .int v2), (3, .int v3)] [] I L Q) (K2 : (¬ v3 = (1 : Int32)) → XS mX9_next 34 [] [] I L Q) : XS mX9_next 29 [(0, .ref 0), (1, .int v1), (2, .int v2), (3, .int v3)] [] I L Q := by
  refine x_iload_n 3 dX9_next_29 rfl rfl ?_
  refine x_iconst (v := (1 : Int32)) dX9_next_30 (by decide) ?_
  exact x_icmp_eq 37 dX9_next_31 (by decide) (fun h => K1 h) (fun h => x_sub [] rfl (K2 h))
theorem bX9_next_34 {I : Nat → Nat → Int32} {L : Nat → Int64} {Q : Option Value → (Nat → Nat → Int32) → (Nat → Int64) → Prop}   (K : Q (some (.int (-3 : Int32))) I L) : XS mX9_next 34 [] [] I L Q := by
  refine x_bipush (v := (-3 : Int32)) dX9_next_34 (by decide) ?_
  exact xs_iret dX9_next_36 rfl rfl K
theorem bX9_next_37 {I : Nat → Nat → Int32} {L : Nat → Int64} {Q : Option Value → (Nat → Nat → Int32) → (Nat → Int64) → Prop} {v1 : Int32} {v2 : Int32} {v3 : Int32} (hb1 : vp_in v1 8) (K : XS mX5_measure 0 [(0, .ref 16), (1, .int v2), (2, .int v3), (3, .int (I 448 (v1.toNatClampNeg)))] [] I L (fun r I' L' => XS mX9_next 55 [(0, .ref 0), (1, .int v1)] (r.toList ++ []) I' L' Q)) : XS mX9_next 37 [(0, .ref 0), (1, .int v1), (2, .int v2), (3, .int v3)] [] I L Q := by
  refine x_aload_n 0 dX9_next_37 rfl rfl ?_
  refine xs_getr dX9_next_38 fl_X9_35 sh_0 rfl rf_3 ?_
  refine x_iload_n 2 dX9_next_41 rfl rfl ?_
  refine x_iload_n 3 dX9_next_42 rfl rfl ?_
  refine x_aload_n 0 dX9_next_43 rfl rfl ?_
  refine xs_getr dX9_next_44 fl_X9_10 sh_0 rfl rf_0 ?_
  refine xs_getr dX9_next_47 fl_X9_172 sh_1 rfl rf_72 ?_
  refine x_iload_n 1 dX9_next_50 rfl rfl ?_
  refine xs_iald 448 (v1.toNatClampNeg) dX9_next_51 sh_7 rfl rfl hb1 ?_
  refine x_sub [0, 1] rfl ?_
  exact xs_callV mX5_measure [.int v2, .int v3, .int (I 448 (v1.toNatClampNeg))] [] 16 5 3 _ rfl dX9_next_52 ml_X9_181 qX5_measure rfl ⟨Nat.le_of_ble_eq_true rfl, Nat.le_of_ble_eq_true rfl⟩ ⟨rfl, rfl⟩ (Nat.le_of_ble_eq_true rfl) sh_16 (by decide) rfl (Nat.le_of_ble_eq_true rfl) (K)
theorem bX9_next_55 {I : Nat → Nat → Int32} {L : Nat → Int64} {Q : Option Value → (Nat → Nat → Int32) → (Nat → Int64) → Prop} {v1 : Int32}  (K : XS mX5_nodeAhead 0 [(0, .ref 16), (1, .int v1)] [] I L (fun r I' L' => XS mX9_next 63 [] (r.toList ++ []) I' L' Q)) : XS mX9_next 55 [(0, .ref 0), (1, .int v1)] [] I L Q := by
  refine x_aload_n 0 dX9_next_55 rfl rfl ?_
  refine xs_getr dX9_next_56 fl_X9_35 sh_0 rfl rf_3 ?_
  refine x_iload_n 1 dX9_next_59 rfl rfl ?_
  refine x_sub [] rfl ?_
  exact xs_callV mX5_nodeAhead [.int v1] [] 16 5 1 _ rfl dX9_next_60 ml_X9_185 qX5_nodeAhead rfl ⟨Nat.le_of_ble_eq_true rfl, Nat.le_of_ble_eq_true rfl⟩ ⟨rfl, rfl⟩ (Nat.le_of_ble_eq_true rfl) sh_16 (by decide) rfl (Nat.le_of_ble_eq_true rfl) (K)
theorem bX9_next_63 {I : Nat → Nat → Int32} {L : Nat → Int64} {Q : Option Value → (Nat → Nat → Int32) → (Nat → Int64) → Prop} {s0 : Int32}  (K : Q (some (.int s0)) I L) : XS mX9_next 63 [] [.int s0] I L Q := by
  exact xs_iret dX9_next_63 rfl rfl K
theorem bX9_far_0 {I : Nat → Nat → Int32} {L : Nat → Int64} {Q : Option Value → (Nat → Nat → Int32) → (Nat → Int64) → Prop} {v1 : Int32} {v2 : Int32} {v3 : Int32}  (K : XS mX2_hasNode 0 [(0, .ref 1), (1, .int v1)] [] I L (fun r I' L' => XS mX9_far 8 [(0, .ref 0), (1, .int v1), (2, .int v2), (3, .int v3)] (r.toList ++ []) I' L' Q)) : XS mX9_far 0 [(0, .ref 0), (1, .int v1), (2, .int v2), (3, .int v3)] [] I L Q := by
  refine x_aload_n 0 dX9_far_0 rfl rfl ?_
  refine xs_getr dX9_far_1 fl_X9_10 sh_0 rfl rf_0 ?_
  refine x_iload_n 1 dX9_far_4 rfl rfl ?_
  exact xs_callV mX2_hasNode [.int v1] [] 1 2 1 _ rfl dX9_far_5 ml_X9_169 qX2_hasNode rfl ⟨Nat.le_of_ble_eq_true rfl, Nat.le_of_ble_eq_true rfl⟩ ⟨rfl, rfl⟩ (Nat.le_of_ble_eq_true rfl) sh_1 (by decide) rfl (Nat.le_of_ble_eq_true rfl) (K)
theorem bX9_far_8 {I : Nat → Nat → Int32} {L : Nat → Int64} {Q : Option Value → (Nat → Nat → Int32) → (Nat → Int64) → Prop} {v1 : Int32} {v2 : Int32} {v3 : Int32} {s0 : Int32}  (K1 : (s0 = 0) → XS mX9_far 22 [] [] I L Q) (K2 : (¬ s0 = 0) → XS mX9_far 11 [(0, .ref 0), (1, .int v1), (2, .int v2), (3, .int v3)] [] I L Q) : XS mX9_far 8 [(0, .ref 0), (1, .int v1), (2, .int v2), (3, .int v3)] [.int s0] I L Q := by
  exact x_if_eq 22 dX9_far_8 (by decide) (fun h => x_sub [] rfl (K1 h)) (fun h => K2 h)
theorem bX9_far_11 {I : Nat → Nat → Int32} {L : Nat → Int64} {Q : Option Value → (Nat → Nat → Int32) → (Nat → Int64) → Prop} {v1 : Int32} {v2 : Int32} {v3 : Int32}  (K : XS mX2_hasNode 0 [(0, .ref 1), (1, .int v2)] [] I L (fun r I' L' => XS mX9_far 19 [(0, .ref 0), (1, .int v1), (2, .int v2), (3, .int v3)] (r.toList ++ []) I' L' Q)) : XS mX9_far 11 [(0, .ref 0), (1, .int v1), (2, .int v2), (3, .int v3)] [] I L Q := by
  refine x_aload_n 0 dX9_far_11 rfl rfl ?_
  refine xs_getr dX9_far_12 fl_X9_10 sh_0 rfl rf_0 ?_
  refine x_iload_n 2 dX9_far_15 rfl rfl ?_
  exact xs_callV mX2_hasNode [.int v2] [] 1 2 1 _ rfl dX9_far_16 ml_X9_169 qX2_hasNode rfl ⟨Nat.le_of_ble_eq_true rfl, Nat.le_of_ble_eq_true rfl⟩ ⟨rfl, rfl⟩ (Nat.le_of_ble_eq_true rfl) sh_1 (by decide) rfl (Nat.le_of_ble_eq_true rfl) (K)
theorem bX9_far_19 {I : Nat → Nat → Int32} {L : Nat → Int64} {Q : Option Value → (Nat → Nat → Int32) → (Nat → Int64) → Prop} {v1 : Int32} {v2 : Int32} {v3 : Int32} {s0 : Int32}  (K1 : (¬ s0 = 0) → XS mX9_far 25 [(0, .ref 0), (1, .int v1), (2, .int v2), (3, .int v3)] [] I L Q) (K2 : (s0 = 0) → XS mX9_far 22 [] [] I L Q) : XS mX9_far 19 [(0, .ref 0), (1, .int v1), (2, .int v2), (3, .int v3)] [.int s0] I L Q := by
  exact x_if_ne 25 dX9_far_19 (by decide) (fun h => K1 h) (fun h => x_sub [] rfl (K2 h))
theorem bX9_far_22 {I : Nat → Nat → Int32} {L : Nat → Int64} {Q : Option Value → (Nat → Nat → Int32) → (Nat → Int64) → Prop}   (K : Q (some (.int (-2 : Int32))) I L) : XS mX9_far 22 [] [] I L Q := by
  refine x_bipush (v := (-2 : Int32)) dX9_far_22 (by decide) ?_
  exact xs_iret dX9_far_24 rfl rfl K
theorem bX9_far_25 {I : Nat → Nat → Int32} {L : Nat → Int64} {Q : Option Value → (Nat → Nat → Int32) → (Nat → Int64) → Prop} {v1 : Int32} {v2 : Int32} {v3 : Int32}  (K1 : (v3 = 0) → XS mX9_far 37 [(0, .ref 0), (1, .int v1), (2, .int v2), (3, .int v3)] [] I L Q) (K2 : (¬ v3 = 0) → XS mX9_far 29 [(0, .ref 0), (1, .int v1), (2, .int v2), (3, .int v3)] [] I L Q) : XS mX9_far 25 [(0, .ref 0), (1, .int v1), (2, .int v2), (3, .int v3)] [] I L Q := by
  refine x_iload_n 3 dX9_far_25 rfl rfl ?_
  exact x_if_eq 37 dX9_far_26 (by decide) (fun h => K1 h) (fun h => K2 h)
theorem bX9_far_29 {I : Nat → Nat → Int32} {L : Nat → Int64} {Q : Option Value → (Nat → Nat → Int32) → (Nat → Int64) → Prop} {v1 : Int32} {v2 : Int32} {v3 : Int32}  (K1 : (v3 = (1 : Int32)) → XS mX9_far 37 [(0, .ref 0), (1, .int v1), (2, .int v2), (3, .int v3)] [] I L Q) (K2 : (¬ v3 = (1 : Int32)) → XS mX9_far 34 [] [] I L Q) : XS mX9_far 29 [(0, .ref 0), (1, .int v1), (2, .int v2), (3, .int v3)] [] I L Q := by
  refine x_iload_n 3 dX9_far_29 rfl rfl ?_
  refine x_iconst (v := (1 : Int32)) dX9_far_30 (by decide) ?_
  exact x_icmp_eq 37 dX9_far_31 (by decide) (fun h => K1 h) (fun h => x_sub [] rfl (K2 h))
theorem bX9_far_34 {I : Nat → Nat → Int32} {L : Nat → Int64} {Q : Option Value → (Nat → Nat → Int32) → (Nat → Int64) → Prop}   (K : Q (some (.int (-3 : Int32))) I L) : XS mX9_far 34 [] [] I L Q := by
  refine x_bipush (v := (-3 : Int32)) dX9_far_34 (by decide) ?_
  exact xs_iret dX9_far_36 rfl rfl K
theorem bX9_far_37 {I : Nat → Nat → Int32} {L : Nat → Int64} {Q : Option Value → (Nat → Nat → Int32) → (Nat → Int64) → Prop} {v1 : Int32} {v2 : Int32} {v3 : Int32} (hb1 : vp_in v1 8) (K : XS mX5_measure 0 [(0, .ref 16), (1, .int v2), (2, .int v3), (3, .int (I 448 (v1.toNatClampNeg)))] [] I L (fun r I' L' => XS mX9_far 55 [(0, .ref 0), (1, .int v1)] (r.toList ++ []) I' L' Q)) : XS mX9_far 37 [(0, .ref 0), (1, .int v1), (2, .int v2), (3, .int v3)] [] I L Q := by
  refine x_aload_n 0 dX9_far_37 rfl rfl ?_
  refine xs_getr dX9_far_38 fl_X9_35 sh_0 rfl rf_3 ?_
  refine x_iload_n 2 dX9_far_41 rfl rfl ?_
  refine x_iload_n 3 dX9_far_42 rfl rfl ?_
  refine x_aload_n 0 dX9_far_43 rfl rfl ?_
  refine xs_getr dX9_far_44 fl_X9_10 sh_0 rfl rf_0 ?_
  refine xs_getr dX9_far_47 fl_X9_172 sh_1 rfl rf_72 ?_
  refine x_iload_n 1 dX9_far_50 rfl rfl ?_
  refine xs_iald 448 (v1.toNatClampNeg) dX9_far_51 sh_7 rfl rfl hb1 ?_
  refine x_sub [0, 1] rfl ?_
  exact xs_callV mX5_measure [.int v2, .int v3, .int (I 448 (v1.toNatClampNeg))] [] 16 5 3 _ rfl dX9_far_52 ml_X9_181 qX5_measure rfl ⟨Nat.le_of_ble_eq_true rfl, Nat.le_of_ble_eq_true rfl⟩ ⟨rfl, rfl⟩ (Nat.le_of_ble_eq_true rfl) sh_16 (by decide) rfl (Nat.le_of_ble_eq_true rfl) (K)
theorem bX9_far_55 {I : Nat → Nat → Int32} {L : Nat → Int64} {Q : Option Value → (Nat → Nat → Int32) → (Nat → Int64) → Prop} {v1 : Int32}  (K : XS mX5_sumFrom 0 [(0, .ref 16), (1, .int v1)] [] I L (fun r I' L' => XS mX9_far 63 [] (r.toList ++ []) I' L' Q)) : XS mX9_far 55 [(0, .ref 0), (1, .int v1)] [] I L Q := by
  refine x_aload_n 0 dX9_far_55 rfl rfl ?_
  refine xs_getr dX9_far_56 fl_X9_35 sh_0 rfl rf_3 ?_
  refine x_iload_n 1 dX9_far_59 rfl rfl ?_
  refine x_sub [] rfl ?_
  exact xs_callV mX5_sumFrom [.int v1] [] 16 5 1 _ rfl dX9_far_60 ml_X9_188 qX5_sumFrom rfl ⟨Nat.le_of_ble_eq_true rfl, Nat.le_of_ble_eq_true rfl⟩ ⟨rfl, rfl⟩ (Nat.le_of_ble_eq_true rfl) sh_16 (by decide) rfl (Nat.le_of_ble_eq_true rfl) (K)
theorem bX9_far_63 {I : Nat → Nat → Int32} {L : Nat → Int64} {Q : Option Value → (Nat → Nat → Int32) → (Nat → Int64) → Prop} {s0 : Int32}  (K : Q (some (.int s0)) I L) : XS mX9_far 63 [] [.int s0] I L Q := by
  exact xs_iret dX9_far_63 rfl rfl K
theorem bX9_space_0 {I : Nat → Nat → Int32} {L : Nat → Int64} {Q : Option Value → (Nat → Nat → Int32) → (Nat → Int64) → Prop} {v1 : Int32} {v2 : Int32} {v3 : Int32}  (K : XS mX2_hasNode 0 [(0, .ref 1), (1, .int v1)] [] I L (fun r I' L' => XS mX9_space 8 [(0, .ref 0), (1, .int v1), (2, .int v2), (3, .int v3)] (r.toList ++ []) I' L' Q)) : XS mX9_space 0 [(0, .ref 0), (1, .int v1), (2, .int v2), (3, .int v3)] [] I L Q := by
  refine x_aload_n 0 dX9_space_0 rfl rfl ?_
  refine xs_getr dX9_space_1 fl_X9_10 sh_0 rfl rf_0 ?_
  refine x_iload_n 1 dX9_space_4 rfl rfl ?_
  exact xs_callV mX2_hasNode [.int v1] [] 1 2 1 _ rfl dX9_space_5 ml_X9_169 qX2_hasNode rfl ⟨Nat.le_of_ble_eq_true rfl, Nat.le_of_ble_eq_true rfl⟩ ⟨rfl, rfl⟩ (Nat.le_of_ble_eq_true rfl) sh_1 (by decide) rfl (Nat.le_of_ble_eq_true rfl) (K)
theorem bX9_space_8 {I : Nat → Nat → Int32} {L : Nat → Int64} {Q : Option Value → (Nat → Nat → Int32) → (Nat → Int64) → Prop} {v1 : Int32} {v2 : Int32} {v3 : Int32} {s0 : Int32}  (K1 : (s0 = 0) → XS mX9_space 22 [] [] I L Q) (K2 : (¬ s0 = 0) → XS mX9_space 11 [(0, .ref 0), (1, .int v1), (2, .int v2), (3, .int v3)] [] I L Q) : XS mX9_space 8 [(0, .ref 0), (1, .int v1), (2, .int v2), (3, .int v3)] [.int s0] I L Q := by
  exact x_if_eq 22 dX9_space_8 (by decide) (fun h => x_sub [] rfl (K1 h)) (fun h => K2 h)
theorem bX9_space_11 {I : Nat → Nat → Int32} {L : Nat → Int64} {Q : Option Value → (Nat → Nat → Int32) → (Nat → Int64) → Prop} {v1 : Int32} {v2 : Int32} {v3 : Int32}  (K : XS mX2_hasLink 0 [(0, .ref 1), (1, .int v2)] [] I L (fun r I' L' => XS mX9_space 19 [(0, .ref 0), (1, .int v1), (2, .int v2), (3, .int v3)] (r.toList ++ []) I' L' Q)) : XS mX9_space 11 [(0, .ref 0), (1, .int v1), (2, .int v2), (3, .int v3)] [] I L Q := by
  refine x_aload_n 0 dX9_space_11 rfl rfl ?_
  refine xs_getr dX9_space_12 fl_X9_10 sh_0 rfl rf_0 ?_
  refine x_iload_n 2 dX9_space_15 rfl rfl ?_
  exact xs_callV mX2_hasLink [.int v2] [] 1 2 1 _ rfl dX9_space_16 ml_X9_133 qX2_hasLink rfl ⟨Nat.le_of_ble_eq_true rfl, Nat.le_of_ble_eq_true rfl⟩ ⟨rfl, rfl⟩ (Nat.le_of_ble_eq_true rfl) sh_1 (by decide) rfl (Nat.le_of_ble_eq_true rfl) (K)
theorem bX9_space_19 {I : Nat → Nat → Int32} {L : Nat → Int64} {Q : Option Value → (Nat → Nat → Int32) → (Nat → Int64) → Prop} {v1 : Int32} {v2 : Int32} {v3 : Int32} {s0 : Int32}  (K1 : (¬ s0 = 0) → XS mX9_space 25 [(0, .ref 0), (1, .int v1), (2, .int v2), (3, .int v3)] [] I L Q) (K2 : (s0 = 0) → XS mX9_space 22 [] [] I L Q) : XS mX9_space 19 [(0, .ref 0), (1, .int v1), (2, .int v2), (3, .int v3)] [.int s0] I L Q := by
  exact x_if_ne 25 dX9_space_19 (by decide) (fun h => K1 h) (fun h => x_sub [] rfl (K2 h))
theorem bX9_space_22 {I : Nat → Nat → Int32} {L : Nat → Int64} {Q : Option Value → (Nat → Nat → Int32) → (Nat → Int64) → Prop}   (K : Q (some (.int (-2 : Int32))) I L) : XS mX9_space 22 [] [] I L Q := by
  refine x_bipush (v := (-2 : Int32)) dX9_space_22 (by decide) ?_
  exact xs_iret dX9_space_24 rfl rfl K
theorem bX9_space_25 {I : Nat → Nat → Int32} {L : Nat → Int64} {Q : Option Value → (Nat → Nat → Int32) → (Nat → Int64) → Prop} {v1 : Int32} {v2 : Int32} {v3 : Int32}  (K1 : (v3 = 0) → XS mX9_space 37 [(0, .ref 0), (1, .int v1), (2, .int v2), (3, .int v3)] [] I L Q) (K2 : (¬ v3 = 0) → XS mX9_space 29 [(0, .ref 0), (1, .int v1), (2, .int v2), (3, .int v3)] [] I L Q) : XS mX9_space 25 [(0, .ref 0), (1, .int v1), (2, .int v2), (3, .int v3)] [] I L Q := by
  refine x_iload_n 3 dX9_space_25 rfl rfl ?_
  exact x_if_eq 37 dX9_space_26 (by decide) (fun h => K1 h) (fun h => K2 h)
theorem bX9_space_29 {I : Nat → Nat → Int32} {L : Nat → Int64} {Q : Option Value → (Nat → Nat → Int32) → (Nat → Int64) → Prop} {v1 : Int32} {v2 : Int32} {v3 : Int32}  (K1 : (v3 = (1 : Int32)) → XS mX9_space 37 [(0, .ref 0), (1, .int v1), (2, .int v2), (3, .int v3)] [] I L Q) (K2 : (¬ v3 = (1 : Int32)) → XS mX9_space 34 [] [] I L Q) : XS mX9_space 29 [(0, .ref 0), (1, .int v1), (2, .int v2), (3, .int v3)] [] I L Q := by
  refine x_iload_n 3 dX9_space_29 rfl rfl ?_
  refine x_iconst (v := (1 : Int32)) dX9_space_30 (by decide) ?_
  exact x_icmp_eq 37 dX9_space_31 (by decide) (fun h => K1 h) (fun h => x_sub [] rfl (K2 h))
theorem bX9_space_34 {I : Nat → Nat → Int32} {L : Nat → Int64} {Q : Option Value → (Nat → Nat → Int32) → (Nat → Int64) → Prop}   (K : Q (some (.int (-3 : Int32))) I L) : XS mX9_space 34 [] [] I L Q := by
  refine x_bipush (v := (-3 : Int32)) dX9_space_34 (by decide) ?_
  exact xs_iret dX9_space_36 rfl rfl K
theorem bX9_space_37 {I : Nat → Nat → Int32} {L : Nat → Int64} {Q : Option Value → (Nat → Nat → Int32) → (Nat → Int64) → Prop} {v1 : Int32} {v2 : Int32} {v3 : Int32}  (K : XS mX9_space 43 [(0, .ref 0), (1, .int v1), (2, .int v2), (3, .int v3), (4, .int (0 : Int32)), (5, .int (0 : Int32))] [] I L Q) : XS mX9_space 37 [(0, .ref 0), (1, .int v1), (2, .int v2), (3, .int v3)] [] I L Q := by
  refine x_iconst (v := (0 : Int32)) dX9_space_37 (by decide) ?_
  refine x_istore [(0, .ref 0), (1, .int v1), (2, .int v2), (3, .int v3), (4, .int (0 : Int32))] dX9_space_38 (Nat.le_of_ble_eq_true rfl) rfl ?_
  refine x_iconst (v := (0 : Int32)) dX9_space_40 (by decide) ?_
  refine x_istore [(0, .ref 0), (1, .int v1), (2, .int v2), (3, .int v3), (4, .int (0 : Int32)), (5, .int (0 : Int32))] dX9_space_41 (Nat.le_of_ble_eq_true rfl) rfl ?_
  exact K
theorem bX9_space_43 {I : Nat → Nat → Int32} {L : Nat → Int64} {Q : Option Value → (Nat → Nat → Int32) → (Nat → Int64) → Prop} {v1 : Int32} {v2 : Int32} {v3 : Int32} {v4 : Int32} {v5 : Int32}  (K1 : ((I 64 0) ≤ v5) → XS mX9_space 118 [(4, .int v4)] [] I L Q) (K2 : (¬ (I 64 0) ≤ v5) → XS mX9_space 55 [(0, .ref 0), (1, .int v1), (2, .int v2), (3, .int v3), (4, .int v4), (5, .int v5)] [] I L Q) : XS mX9_space 43 [(0, .ref 0), (1, .int v1), (2, .int v2), (3, .int v3), (4, .int v4), (5, .int v5)] [] I L Q := by
  refine x_iload 5 dX9_space_43 rfl ?_
  refine x_aload_n 0 dX9_space_45 rfl rfl ?_
  refine xs_getr dX9_space_46 fl_X9_10 sh_0 rfl rf_0 ?_
  refine xs_geti 64 dX9_space_49 fl_X9_191 sh_1 rfl rfl ?_
  exact x_icmp_ge 118 dX9_space_52 (by decide) (fun h => x_sub [4] rfl (K1 h)) (fun h => K2 h)
theorem bX9_space_55 {I : Nat → Nat → Int32} {L : Nat → Int64} {Q : Option Value → (Nat → Nat → Int32) → (Nat → Int64) → Prop} {v1 : Int32} {v2 : Int32} {v3 : Int32} {v4 : Int32} {v5 : Int32}  (K1 : (¬ v3 = 0) → XS mX9_space 63 [(0, .ref 0), (1, .int v1), (2, .int v2), (3, .int v3), (4, .int v4), (5, .int v5)] [] I L Q) (K2 : (v3 = 0) → XS mX9_space 59 [(0, .ref 0), (1, .int v1), (2, .int v2), (3, .int v3), (4, .int v4), (5, .int v5)] [] I L Q) : XS mX9_space 55 [(0, .ref 0), (1, .int v1), (2, .int v2), (3, .int v3), (4, .int v4), (5, .int v5)] [] I L Q := by
  refine x_iload_n 3 dX9_space_55 rfl rfl ?_
  exact x_if_ne 63 dX9_space_56 (by decide) (fun h => K1 h) (fun h => K2 h)
theorem bX9_space_59 {I : Nat → Nat → Int32} {L : Nat → Int64} {Q : Option Value → (Nat → Nat → Int32) → (Nat → Int64) → Prop} {v1 : Int32} {v2 : Int32} {v3 : Int32} {v4 : Int32} {v5 : Int32}  (K : XS mX9_space 65 [(0, .ref 0), (1, .int v1), (2, .int v2), (3, .int v3), (4, .int v4), (5, .int v5)] [.int v1] I L Q) : XS mX9_space 59 [(0, .ref 0), (1, .int v1), (2, .int v2), (3, .int v3), (4, .int v4), (5, .int v5)] [] I L Q := by
  refine x_iload_n 1 dX9_space_59 rfl rfl ?_
  exact x_goto 65 dX9_space_60 (by decide) (K)
theorem bX9_space_63 {I : Nat → Nat → Int32} {L : Nat → Int64} {Q : Option Value → (Nat → Nat → Int32) → (Nat → Int64) → Prop} {v1 : Int32} {v2 : Int32} {v3 : Int32} {v4 : Int32} {v5 : Int32}  (K : XS mX9_space 65 [(0, .ref 0), (1, .int v1), (2, .int v2), (3, .int v3), (4, .int v4), (5, .int v5)] [.int v5] I L Q) : XS mX9_space 63 [(0, .ref 0), (1, .int v1), (2, .int v2), (3, .int v3), (4, .int v4), (5, .int v5)] [] I L Q := by
  refine x_iload 5 dX9_space_63 rfl ?_
  exact K
theorem bX9_space_65 {I : Nat → Nat → Int32} {L : Nat → Int64} {Q : Option Value → (Nat → Nat → Int32) → (Nat → Int64) → Prop} {v1 : Int32} {v2 : Int32} {v3 : Int32} {v4 : Int32} {v5 : Int32} {s0 : Int32}  (K1 : (¬ v3 = 0) → XS mX9_space 76 [(0, .ref 0), (1, .int v1), (2, .int v2), (3, .int v3), (4, .int v4), (5, .int v5), (6, .int s0)] [] I L Q) (K2 : (v3 = 0) → XS mX9_space 71 [(0, .ref 0), (1, .int v1), (2, .int v2), (3, .int v3), (4, .int v4), (5, .int v5), (6, .int s0)] [] I L Q) : XS mX9_space 65 [(0, .ref 0), (1, .int v1), (2, .int v2), (3, .int v3), (4, .int v4), (5, .int v5)] [.int s0] I L Q := by
  refine x_istore [(0, .ref 0), (1, .int v1), (2, .int v2), (3, .int v3), (4, .int v4), (5, .int v5), (6, .int s0)] dX9_space_65 (Nat.le_of_ble_eq_true rfl) rfl ?_
  refine x_iload_n 3 dX9_space_67 rfl rfl ?_
  exact x_if_ne 76 dX9_space_68 (by decide) (fun h => K1 h) (fun h => K2 h)
theorem bX9_space_71 {I : Nat → Nat → Int32} {L : Nat → Int64} {Q : Option Value → (Nat → Nat → Int32) → (Nat → Int64) → Prop} {v1 : Int32} {v2 : Int32} {v3 : Int32} {v4 : Int32} {v5 : Int32} {v6 : Int32}  (K : XS mX9_space 77 [(0, .ref 0), (1, .int v1), (2, .int v2), (3, .int v3), (4, .int v4), (5, .int v5), (6, .int v6)] [.int v5] I L Q) : XS mX9_space 71 [(0, .ref 0), (1, .int v1), (2, .int v2), (3, .int v3), (4, .int v4), (5, .int v5), (6, .int v6)] [] I L Q := by
  refine x_iload 5 dX9_space_71 rfl ?_
  exact x_goto 77 dX9_space_73 (by decide) (K)
theorem bX9_space_76 {I : Nat → Nat → Int32} {L : Nat → Int64} {Q : Option Value → (Nat → Nat → Int32) → (Nat → Int64) → Prop} {v1 : Int32} {v2 : Int32} {v3 : Int32} {v4 : Int32} {v5 : Int32} {v6 : Int32}  (K : XS mX9_space 77 [(0, .ref 0), (1, .int v1), (2, .int v2), (3, .int v3), (4, .int v4), (5, .int v5), (6, .int v6)] [.int v1] I L Q) : XS mX9_space 76 [(0, .ref 0), (1, .int v1), (2, .int v2), (3, .int v3), (4, .int v4), (5, .int v5), (6, .int v6)] [] I L Q := by
  refine x_iload_n 1 dX9_space_76 rfl rfl ?_
  exact K
theorem bX9_space_77 {I : Nat → Nat → Int32} {L : Nat → Int64} {Q : Option Value → (Nat → Nat → Int32) → (Nat → Int64) → Prop} {v1 : Int32} {v2 : Int32} {v3 : Int32} {v4 : Int32} {v5 : Int32} {v6 : Int32} {s0 : Int32} (hb1 : vp_in v1 8) (K : XS mX5_walkSpares 0 [(0, .ref 16), (1, .int v6), (2, .int s0), (3, .int (I 448 (v1.toNatClampNeg))), (4, .int v2)] [] I L (fun r I' L' => XS mX9_space 100 [(0, .ref 0), (1, .int v1), (2, .int v2), (3, .int v3), (4, .int v4), (5, .int v5)] (r.toList ++ []) I' L' Q)) : XS mX9_space 77 [(0, .ref 0), (1, .int v1), (2, .int v2), (3, .int v3), (4, .int v4), (5, .int v5), (6, .int v6)] [.int s0] I L Q := by
  refine x_istore [(0, .ref 0), (1, .int v1), (2, .int v2), (3, .int v3), (4, .int v4), (5, .int v5), (6, .int v6), (7, .int s0)] dX9_space_77 (Nat.le_of_ble_eq_true rfl) rfl ?_
  refine x_aload_n 0 dX9_space_79 rfl rfl ?_
  refine xs_getr dX9_space_80 fl_X9_35 sh_0 rfl rf_3 ?_
  refine x_iload 6 dX9_space_83 rfl ?_
  refine x_iload 7 dX9_space_85 rfl ?_
  refine x_aload_n 0 dX9_space_87 rfl rfl ?_
  refine xs_getr dX9_space_88 fl_X9_10 sh_0 rfl rf_0 ?_
  refine xs_getr dX9_space_91 fl_X9_172 sh_1 rfl rf_72 ?_
  refine x_iload_n 1 dX9_space_94 rfl rfl ?_
  refine xs_iald 448 (v1.toNatClampNeg) dX9_space_95 sh_7 rfl rfl hb1 ?_
  refine x_iload_n 2 dX9_space_96 rfl rfl ?_
  refine x_sub [0, 1, 2, 3, 4, 5] rfl ?_
  exact xs_callV mX5_walkSpares [.int v6, .int s0, .int (I 448 (v1.toNatClampNeg)), .int v2] [] 16 5 4 _ rfl dX9_space_97 ml_X9_194 qX5_walkSpares rfl ⟨Nat.le_of_ble_eq_true rfl, Nat.le_of_ble_eq_true rfl⟩ ⟨rfl, rfl⟩ (Nat.le_of_ble_eq_true rfl) sh_16 (by decide) rfl (Nat.le_of_ble_eq_true rfl) (K)
theorem bX9_space_100 {I : Nat → Nat → Int32} {L : Nat → Int64} {Q : Option Value → (Nat → Nat → Int32) → (Nat → Int64) → Prop} {v1 : Int32} {v2 : Int32} {v3 : Int32} {v4 : Int32} {v5 : Int32} {s0 : Int32}  (K1 : (s0 = 0) → XS mX9_space 112 [(0, .ref 0), (1, .int v1), (2, .int v2), (3, .int v3), (4, .int v4), (5, .int v5)] [] I L Q) (K2 : (¬ s0 = 0) → XS mX9_space 103 [(0, .ref 0), (1, .int v1), (2, .int v2), (3, .int v3), (4, .int v4), (5, .int v5)] [] I L Q) : XS mX9_space 100 [(0, .ref 0), (1, .int v1), (2, .int v2), (3, .int v3), (4, .int v4), (5, .int v5)] [.int s0] I L Q := by
  exact x_if_eq 112 dX9_space_100 (by decide) (fun h => K1 h) (fun h => K2 h)
theorem bX9_space_103 {I : Nat → Nat → Int32} {L : Nat → Int64} {Q : Option Value → (Nat → Nat → Int32) → (Nat → Int64) → Prop} {v1 : Int32} {v2 : Int32} {v3 : Int32} {v4 : Int32} {v5 : Int32}  (K : XS mX9_space 112 [(0, .ref 0), (1, .int v1), (2, .int v2), (3, .int v3), (4, .int (v4 ||| ((1 : Int32) <<< (v5 &&& 31)))), (5, .int v5)] [] I L Q) : XS mX9_space 103 [(0, .ref 0), (1, .int v1), (2, .int v2), (3, .int v3), (4, .int v4), (5, .int v5)] [] I L Q := by
  refine x_iload 4 dX9_space_103 rfl ?_
  refine x_iconst (v := (1 : Int32)) dX9_space_105 (by decide) ?_
  refine x_iload 5 dX9_space_106 rfl ?_
  refine x_ishl dX9_space_108 ?_
  refine x_ior dX9_space_109 ?_
  refine x_istore [(0, .ref 0), (1, .int v1), (2, .int v2), (3, .int v3), (4, .int (v4 ||| ((1 : Int32) <<< (v5 &&& 31)))), (5, .int v5)] dX9_space_110 (Nat.le_of_ble_eq_true rfl) rfl ?_
  exact K
theorem bX9_space_112 {I : Nat → Nat → Int32} {L : Nat → Int64} {Q : Option Value → (Nat → Nat → Int32) → (Nat → Int64) → Prop} {v1 : Int32} {v2 : Int32} {v3 : Int32} {v4 : Int32} {v5 : Int32}  (K : XS mX9_space 43 [(0, .ref 0), (1, .int v1), (2, .int v2), (3, .int v3), (4, .int v4), (5, .int (v5 + (1 : Int32)))] [] I L Q) : XS mX9_space 112 [(0, .ref 0), (1, .int v1), (2, .int v2), (3, .int v3), (4, .int v4), (5, .int v5)] [] I L Q := by
  refine x_iinc 5 (v5 + (1 : Int32)) [(0, .ref 0), (1, .int v1), (2, .int v2), (3, .int v3), (4, .int v4), (5, .int (v5 + (1 : Int32)))] dX9_space_112 rfl rfl (Nat.le_of_ble_eq_true rfl) rfl ?_
  exact x_goto 43 dX9_space_115 (by decide) (K)
theorem bX9_space_118 {I : Nat → Nat → Int32} {L : Nat → Int64} {Q : Option Value → (Nat → Nat → Int32) → (Nat → Int64) → Prop} {v4 : Int32}  (K : Q (some (.int v4)) I L) : XS mX9_space 118 [(4, .int v4)] [] I L Q := by
  refine x_iload 0 dX9_space_118 rfl ?_
  exact xs_iret dX9_space_120 rfl rfl K
theorem bX9_rings_0 {I : Nat → Nat → Int32} {L : Nat → Int64} {Q : Option Value → (Nat → Nat → Int32) → (Nat → Int64) → Prop} {v1 : Int32}  (K : XS mX2_hasNode 0 [(0, .ref 1), (1, .int v1)] [] I L (fun r I' L' => XS mX9_rings 8 [(0, .ref 0), (1, .int v1)] (r.toList ++ []) I' L' Q)) : XS mX9_rings 0 [(0, .ref 0), (1, .int v1)] [] I L Q := by
  refine x_aload_n 0 dX9_rings_0 rfl rfl ?_
  refine xs_getr dX9_rings_1 fl_X9_10 sh_0 rfl rf_0 ?_
  refine x_iload_n 1 dX9_rings_4 rfl rfl ?_
  exact xs_callV mX2_hasNode [.int v1] [] 1 2 1 _ rfl dX9_rings_5 ml_X9_169 qX2_hasNode rfl ⟨Nat.le_of_ble_eq_true rfl, Nat.le_of_ble_eq_true rfl⟩ ⟨rfl, rfl⟩ (Nat.le_of_ble_eq_true rfl) sh_1 (by decide) rfl (Nat.le_of_ble_eq_true rfl) (K)
theorem bX9_rings_8 {I : Nat → Nat → Int32} {L : Nat → Int64} {Q : Option Value → (Nat → Nat → Int32) → (Nat → Int64) → Prop} {v1 : Int32} {s0 : Int32}  (K1 : (¬ s0 = 0) → XS mX9_rings 14 [(0, .ref 0), (1, .int v1)] [] I L Q) (K2 : (s0 = 0) → XS mX9_rings 11 [] [] I L Q) : XS mX9_rings 8 [(0, .ref 0), (1, .int v1)] [.int s0] I L Q := by
  exact x_if_ne 14 dX9_rings_8 (by decide) (fun h => K1 h) (fun h => x_sub [] rfl (K2 h))
theorem bX9_rings_11 {I : Nat → Nat → Int32} {L : Nat → Int64} {Q : Option Value → (Nat → Nat → Int32) → (Nat → Int64) → Prop}   (K : Q (some (.int (-2 : Int32))) I L) : XS mX9_rings 11 [] [] I L Q := by
  refine x_bipush (v := (-2 : Int32)) dX9_rings_11 (by decide) ?_
  exact xs_iret dX9_rings_13 rfl rfl K
theorem bX9_rings_14 {I : Nat → Nat → Int32} {L : Nat → Int64} {Q : Option Value → (Nat → Nat → Int32) → (Nat → Int64) → Prop} {v1 : Int32}  (K : XS mX4_lookTowards 0 [(0, .ref 20), (1, .int v1)] [] I L (fun r I' L' => XS mX9_rings 22 [(0, .ref 0), (1, .int v1)] (r.toList ++ []) I' L' Q)) : XS mX9_rings 14 [(0, .ref 0), (1, .int v1)] [] I L Q := by
  refine x_aload_n 0 dX9_rings_14 rfl rfl ?_
  refine xs_getr dX9_rings_15 fl_X9_44 sh_0 rfl rf_4 ?_
  refine x_iload_n 1 dX9_rings_18 rfl rfl ?_
  exact xs_callV mX4_lookTowards [.int v1] [] 20 4 1 _ rfl dX9_rings_19 ml_X9_198 qX4_lookTowards rfl ⟨Nat.le_of_ble_eq_true rfl, Nat.le_of_ble_eq_true rfl⟩ ⟨rfl, rfl⟩ (Nat.le_of_ble_eq_true rfl) sh_20 (by decide) rfl (Nat.le_of_ble_eq_true rfl) (K)
theorem bX9_rings_22 {I : Nat → Nat → Int32} {L : Nat → Int64} {Q : Option Value → (Nat → Nat → Int32) → (Nat → Int64) → Prop} {v1 : Int32}  (K : XS mX4_ringsOf 0 [(0, .ref 20), (1, .int v1), (2, .int (0 : Int32))] [] I L (fun r I' L' => XS mX9_rings 31 [] (r.toList ++ []) I' L' Q)) : XS mX9_rings 22 [(0, .ref 0), (1, .int v1)] [] I L Q := by
  refine x_aload_n 0 dX9_rings_22 rfl rfl ?_
  refine xs_getr dX9_rings_23 fl_X9_44 sh_0 rfl rf_4 ?_
  refine x_iload_n 1 dX9_rings_26 rfl rfl ?_
  refine x_iconst (v := (0 : Int32)) dX9_rings_27 (by decide) ?_
  refine x_sub [] rfl ?_
  exact xs_callV mX4_ringsOf [.int v1, .int (0 : Int32)] [] 20 4 2 _ rfl dX9_rings_28 ml_X9_201 qX4_ringsOf rfl ⟨Nat.le_of_ble_eq_true rfl, Nat.le_of_ble_eq_true rfl⟩ ⟨rfl, rfl⟩ (Nat.le_of_ble_eq_true rfl) sh_20 (by decide) rfl (Nat.le_of_ble_eq_true rfl) (K)
theorem bX9_rings_31 {I : Nat → Nat → Int32} {L : Nat → Int64} {Q : Option Value → (Nat → Nat → Int32) → (Nat → Int64) → Prop} {s0 : Int32}  (K : Q (some (.int s0)) I L) : XS mX9_rings 31 [] [.int s0] I L Q := by
  exact xs_iret dX9_rings_31 rfl rfl K
theorem bX9_safe_0 {I : Nat → Nat → Int32} {L : Nat → Int64} {Q : Option Value → (Nat → Nat → Int32) → (Nat → Int64) → Prop} {v1 : Int32}  (K : XS mX2_hasNode 0 [(0, .ref 1), (1, .int v1)] [] I L (fun r I' L' => XS mX9_safe 8 [(0, .ref 0), (1, .int v1)] (r.toList ++ []) I' L' Q)) : XS mX9_safe 0 [(0, .ref 0), (1, .int v1)] [] I L Q := by
  refine x_aload_n 0 dX9_safe_0 rfl rfl ?_
  refine xs_getr dX9_safe_1 fl_X9_10 sh_0 rfl rf_0 ?_
  refine x_iload_n 1 dX9_safe_4 rfl rfl ?_
  exact xs_callV mX2_hasNode [.int v1] [] 1 2 1 _ rfl dX9_safe_5 ml_X9_169 qX2_hasNode rfl ⟨Nat.le_of_ble_eq_true rfl, Nat.le_of_ble_eq_true rfl⟩ ⟨rfl, rfl⟩ (Nat.le_of_ble_eq_true rfl) sh_1 (by decide) rfl (Nat.le_of_ble_eq_true rfl) (K)
theorem bX9_safe_8 {I : Nat → Nat → Int32} {L : Nat → Int64} {Q : Option Value → (Nat → Nat → Int32) → (Nat → Int64) → Prop} {v1 : Int32} {s0 : Int32}  (K1 : (¬ s0 = 0) → XS mX9_safe 14 [(0, .ref 0), (1, .int v1)] [] I L Q) (K2 : (s0 = 0) → XS mX9_safe 11 [] [] I L Q) : XS mX9_safe 8 [(0, .ref 0), (1, .int v1)] [.int s0] I L Q := by
  exact x_if_ne 14 dX9_safe_8 (by decide) (fun h => K1 h) (fun h => x_sub [] rfl (K2 h))
theorem bX9_safe_11 {I : Nat → Nat → Int32} {L : Nat → Int64} {Q : Option Value → (Nat → Nat → Int32) → (Nat → Int64) → Prop}   (K : Q (some (.int (-2 : Int32))) I L) : XS mX9_safe 11 [] [] I L Q := by
  refine x_bipush (v := (-2 : Int32)) dX9_safe_11 (by decide) ?_
  exact xs_iret dX9_safe_13 rfl rfl K
theorem bX9_safe_14 {I : Nat → Nat → Int32} {L : Nat → Int64} {Q : Option Value → (Nat → Nat → Int32) → (Nat → Int64) → Prop} {v1 : Int32}  (K : XS mX4_lookAround 0 [(0, .ref 20)] [] I L (fun r I' L' => XS mX9_safe 21 [(0, .ref 0), (1, .int v1)] (r.toList ++ []) I' L' Q)) : XS mX9_safe 14 [(0, .ref 0), (1, .int v1)] [] I L Q := by
  refine x_aload_n 0 dX9_safe_14 rfl rfl ?_
  refine xs_getr dX9_safe_15 fl_X9_44 sh_0 rfl rf_4 ?_
  exact xs_callV mX4_lookAround [] [] 20 4 0 _ rfl dX9_safe_18 ml_X9_204 qX4_lookAround rfl ⟨Nat.le_of_ble_eq_true rfl, Nat.le_of_ble_eq_true rfl⟩ ⟨rfl, rfl⟩ (Nat.le_of_ble_eq_true rfl) sh_20 (by decide) rfl (Nat.le_of_ble_eq_true rfl) (K)
theorem bX9_safe_21 {I : Nat → Nat → Int32} {L : Nat → Int64} {Q : Option Value → (Nat → Nat → Int32) → (Nat → Int64) → Prop} {v1 : Int32}  (K : XS mX4_hasRings 0 [(0, .ref 20), (1, .int ((1 : Int32) <<< (v1 &&& 31)))] [] I L (fun r I' L' => XS mX9_safe 31 [] (r.toList ++ []) I' L' Q)) : XS mX9_safe 21 [(0, .ref 0), (1, .int v1)] [] I L Q := by
  refine x_aload_n 0 dX9_safe_21 rfl rfl ?_
  refine xs_getr dX9_safe_22 fl_X9_44 sh_0 rfl rf_4 ?_
  refine x_iconst (v := (1 : Int32)) dX9_safe_25 (by decide) ?_
  refine x_iload_n 1 dX9_safe_26 rfl rfl ?_
  refine x_ishl dX9_safe_27 ?_
  refine x_sub [] rfl ?_
  exact xs_callV mX4_hasRings [.int ((1 : Int32) <<< (v1 &&& 31))] [] 20 4 1 _ rfl dX9_safe_28 ml_X9_207 qX4_hasRings rfl ⟨Nat.le_of_ble_eq_true rfl, Nat.le_of_ble_eq_true rfl⟩ ⟨rfl, rfl⟩ (Nat.le_of_ble_eq_true rfl) sh_20 (by decide) rfl (Nat.le_of_ble_eq_true rfl) (K)
theorem bX9_safe_31 {I : Nat → Nat → Int32} {L : Nat → Int64} {Q : Option Value → (Nat → Nat → Int32) → (Nat → Int64) → Prop} {s0 : Int32}  (K1 : (s0 = 0) → XS mX9_safe 38 [] [] I L Q) (K2 : (¬ s0 = 0) → XS mX9_safe 34 [] [] I L Q) : XS mX9_safe 31 [] [.int s0] I L Q := by
  exact x_if_eq 38 dX9_safe_31 (by decide) (fun h => K1 h) (fun h => K2 h)
theorem bX9_safe_34 {I : Nat → Nat → Int32} {L : Nat → Int64} {Q : Option Value → (Nat → Nat → Int32) → (Nat → Int64) → Prop}   (K : XS mX9_safe 39 [] [.int (0 : Int32)] I L Q) : XS mX9_safe 34 [] [] I L Q := by
  refine x_iconst (v := (0 : Int32)) dX9_safe_34 (by decide) ?_
  exact x_goto 39 dX9_safe_35 (by decide) (K)
theorem bX9_safe_38 {I : Nat → Nat → Int32} {L : Nat → Int64} {Q : Option Value → (Nat → Nat → Int32) → (Nat → Int64) → Prop}   (K : XS mX9_safe 39 [] [.int (1 : Int32)] I L Q) : XS mX9_safe 38 [] [] I L Q := by
  refine x_iconst (v := (1 : Int32)) dX9_safe_38 (by decide) ?_
  exact K
theorem bX9_safe_39 {I : Nat → Nat → Int32} {L : Nat → Int64} {Q : Option Value → (Nat → Nat → Int32) → (Nat → Int64) → Prop} {s0 : Int32}  (K : Q (some (.int s0)) I L) : XS mX9_safe 39 [] [.int s0] I L Q := by
  exact xs_iret dX9_safe_39 rfl rfl K
theorem bX9_order_0 {I : Nat → Nat → Int32} {L : Nat → Int64} {Q : Option Value → (Nat → Nat → Int32) → (Nat → Int64) → Prop} {v1 : Int32}  (K1 : ((-1 : Int32) ≤ v1) → XS mX9_order 8 [(0, .ref 0), (1, .int v1)] [] I L Q) (K2 : (¬ (-1 : Int32) ≤ v1) → XS mX9_order 5 [] [] I L Q) : XS mX9_order 0 [(0, .ref 0), (1, .int v1)] [] I L Q := by
  refine x_iload_n 1 dX9_order_0 rfl rfl ?_
  refine x_iconst (v := (-1 : Int32)) dX9_order_1 (by decide) ?_
  exact x_icmp_ge 8 dX9_order_2 (by decide) (fun h => K1 h) (fun h => x_sub [] rfl (K2 h))
theorem bX9_order_5 {I : Nat → Nat → Int32} {L : Nat → Int64} {Q : Option Value → (Nat → Nat → Int32) → (Nat → Int64) → Prop}   (K : Q (some (.int (-3 : Int32))) I L) : XS mX9_order 5 [] [] I L Q := by
  refine x_bipush (v := (-3 : Int32)) dX9_order_5 (by decide) ?_
  exact xs_iret dX9_order_7 rfl rfl K
theorem bX9_order_8 {I : Nat → Nat → Int32} {L : Nat → Int64} {Q : Option Value → (Nat → Nat → Int32) → (Nat → Int64) → Prop} {v1 : Int32}  (K : XS mX4_findOrder 0 [(0, .ref 20)] [] I L (fun r I' L' => XS mX9_order 15 [(0, .ref 0), (1, .int v1)] (r.toList ++ []) I' L' Q)) : XS mX9_order 8 [(0, .ref 0), (1, .int v1)] [] I L Q := by
  refine x_aload_n 0 dX9_order_8 rfl rfl ?_
  refine xs_getr dX9_order_9 fl_X9_44 sh_0 rfl rf_4 ?_
  exact xs_callV mX4_findOrder [] [] 20 4 0 _ rfl dX9_order_12 ml_X9_210 qX4_findOrder rfl ⟨Nat.le_of_ble_eq_true rfl, Nat.le_of_ble_eq_true rfl⟩ ⟨rfl, rfl⟩ (Nat.le_of_ble_eq_true rfl) sh_20 (by decide) rfl (Nat.le_of_ble_eq_true rfl) (K)
theorem bX9_order_15 {I : Nat → Nat → Int32} {L : Nat → Int64} {Q : Option Value → (Nat → Nat → Int32) → (Nat → Int64) → Prop} {v1 : Int32} {s0 : Int32}  (K1 : (s0 = 0) → XS mX9_order 32 [] [] I L Q) (K2 : (¬ s0 = 0) → XS mX9_order 18 [(0, .ref 0), (1, .int v1)] [] I L Q) : XS mX9_order 15 [(0, .ref 0), (1, .int v1)] [.int s0] I L Q := by
  exact x_if_eq 32 dX9_order_15 (by decide) (fun h => x_sub [] rfl (K1 h)) (fun h => K2 h)
theorem bX9_order_18 {I : Nat → Nat → Int32} {L : Nat → Int64} {Q : Option Value → (Nat → Nat → Int32) → (Nat → Int64) → Prop} {v1 : Int32}  (K : XS mX6_told 0 [(0, .ref 24), (1, .int v1)] [] I L (fun r I' L' => XS mX9_order 29 [] (r.toList ++ []) I' L' Q)) : XS mX9_order 18 [(0, .ref 0), (1, .int v1)] [] I L Q := by
  refine x_aload_n 0 dX9_order_18 rfl rfl ?_
  refine xs_getr dX9_order_19 fl_X9_44 sh_0 rfl rf_4 ?_
  refine xs_getr dX9_order_22 fl_X9_214 sh_20 rfl rf_1285 ?_
  refine x_iload_n 1 dX9_order_25 rfl rfl ?_
  refine x_sub [] rfl ?_
  exact xs_callV mX6_told [.int v1] [] 24 6 1 _ rfl dX9_order_26 ml_X9_217 qX6_told rfl ⟨Nat.le_of_ble_eq_true rfl, Nat.le_of_ble_eq_true rfl⟩ ⟨rfl, rfl⟩ (Nat.le_of_ble_eq_true rfl) sh_24 (by decide) rfl (Nat.le_of_ble_eq_true rfl) (K)
theorem bX9_order_29 {I : Nat → Nat → Int32} {L : Nat → Int64} {Q : Option Value → (Nat → Nat → Int32) → (Nat → Int64) → Prop} {s0 : Int32}  (K : XS mX9_order 34 [] [.int s0] I L Q) : XS mX9_order 29 [] [.int s0] I L Q := by
  exact x_goto 34 dX9_order_29 (by decide) (K)
theorem bX9_order_32 {I : Nat → Nat → Int32} {L : Nat → Int64} {Q : Option Value → (Nat → Nat → Int32) → (Nat → Int64) → Prop}   (K : XS mX9_order 34 [] [.int (-4 : Int32)] I L Q) : XS mX9_order 32 [] [] I L Q := by
  refine x_bipush (v := (-4 : Int32)) dX9_order_32 (by decide) ?_
  exact K
theorem bX9_order_34 {I : Nat → Nat → Int32} {L : Nat → Int64} {Q : Option Value → (Nat → Nat → Int32) → (Nat → Int64) → Prop} {s0 : Int32}  (K : Q (some (.int s0)) I L) : XS mX9_order 34 [] [.int s0] I L Q := by
  exact xs_iret dX9_order_34 rfl rfl K
theorem bX9_push_0 {I : Nat → Nat → Int32} {L : Nat → Int64} {Q : Option Value → (Nat → Nat → Int32) → (Nat → Int64) → Prop} {v1 : Int32} {v2 : Int32}  (K1 : (v1 < 0) → XS mX9_push 9 [] [] I L Q) (K2 : (¬ v1 < 0) → XS mX9_push 4 [(0, .ref 0), (1, .int v1), (2, .int v2)] [] I L Q) : XS mX9_push 0 [(0, .ref 0), (1, .int v1), (2, .int v2)] [] I L Q := by
  refine x_iload_n 1 dX9_push_0 rfl rfl ?_
  exact x_if_lt 9 dX9_push_1 (by decide) (fun h => x_sub [] rfl (K1 h)) (fun h => K2 h)
theorem bX9_push_4 {I : Nat → Nat → Int32} {L : Nat → Int64} {Q : Option Value → (Nat → Nat → Int32) → (Nat → Int64) → Prop} {v1 : Int32} {v2 : Int32}  (K1 : (v1 ≤ (2 : Int32)) → XS mX9_push 12 [(0, .ref 0), (1, .int v1), (2, .int v2)] [] I L Q) (K2 : (¬ v1 ≤ (2 : Int32)) → XS mX9_push 9 [] [] I L Q) : XS mX9_push 4 [(0, .ref 0), (1, .int v1), (2, .int v2)] [] I L Q := by
  refine x_iload_n 1 dX9_push_4 rfl rfl ?_
  refine x_iconst (v := (2 : Int32)) dX9_push_5 (by decide) ?_
  exact x_icmp_le 12 dX9_push_6 (by decide) (fun h => K1 h) (fun h => x_sub [] rfl (K2 h))
theorem bX9_push_9 {I : Nat → Nat → Int32} {L : Nat → Int64} {Q : Option Value → (Nat → Nat → Int32) → (Nat → Int64) → Prop}   (K : Q (some (.int (-3 : Int32))) I L) : XS mX9_push 9 [] [] I L Q := by
  refine x_bipush (v := (-3 : Int32)) dX9_push_9 (by decide) ?_
  exact xs_iret dX9_push_11 rfl rfl K
theorem bX9_push_12 {I : Nat → Nat → Int32} {L : Nat → Int64} {Q : Option Value → (Nat → Nat → Int32) → (Nat → Int64) → Prop} {v1 : Int32} {v2 : Int32}  (K1 : (¬ v1 = (2 : Int32)) → XS mX9_push 31 [(0, .ref 0), (1, .int v1), (2, .int v2)] [] I L Q) (K2 : (v1 = (2 : Int32)) → XS mX9_push 17 [(0, .ref 0), (1, .int v1), (2, .int v2)] [] I L Q) : XS mX9_push 12 [(0, .ref 0), (1, .int v1), (2, .int v2)] [] I L Q := by
  refine x_iload_n 1 dX9_push_12 rfl rfl ?_
  refine x_iconst (v := (2 : Int32)) dX9_push_13 (by decide) ?_
  exact x_icmp_ne 31 dX9_push_14 (by decide) (fun h => K1 h) (fun h => K2 h)
theorem bX9_push_17 {I : Nat → Nat → Int32} {L : Nat → Int64} {Q : Option Value → (Nat → Nat → Int32) → (Nat → Int64) → Prop} {v1 : Int32} {v2 : Int32}  (K : XS mX2_hasLink 0 [(0, .ref 1), (1, .int v2)] [] I L (fun r I' L' => XS mX9_push 25 [(0, .ref 0), (1, .int v1), (2, .int v2)] (r.toList ++ []) I' L' Q)) : XS mX9_push 17 [(0, .ref 0), (1, .int v1), (2, .int v2)] [] I L Q := by
  refine x_aload_n 0 dX9_push_17 rfl rfl ?_
  refine xs_getr dX9_push_18 fl_X9_10 sh_0 rfl rf_0 ?_
  refine x_iload_n 2 dX9_push_21 rfl rfl ?_
  exact xs_callV mX2_hasLink [.int v2] [] 1 2 1 _ rfl dX9_push_22 ml_X9_133 qX2_hasLink rfl ⟨Nat.le_of_ble_eq_true rfl, Nat.le_of_ble_eq_true rfl⟩ ⟨rfl, rfl⟩ (Nat.le_of_ble_eq_true rfl) sh_1 (by decide) rfl (Nat.le_of_ble_eq_true rfl) (K)
theorem bX9_push_25 {I : Nat → Nat → Int32} {L : Nat → Int64} {Q : Option Value → (Nat → Nat → Int32) → (Nat → Int64) → Prop} {v1 : Int32} {v2 : Int32} {s0 : Int32}  (K1 : (¬ s0 = 0) → XS mX9_push 45 [(0, .ref 0), (1, .int v1), (2, .int v2)] [] I L Q) (K2 : (s0 = 0) → XS mX9_push 28 [] [] I L Q) : XS mX9_push 25 [(0, .ref 0), (1, .int v1), (2, .int v2)] [.int s0] I L Q := by
  exact x_if_ne 45 dX9_push_25 (by decide) (fun h => K1 h) (fun h => x_sub [] rfl (K2 h))
theorem bX9_push_28 {I : Nat → Nat → Int32} {L : Nat → Int64} {Q : Option Value → (Nat → Nat → Int32) → (Nat → Int64) → Prop}   (K : XS mX9_push 42 [] [] I L Q) : XS mX9_push 28 [] [] I L Q := by
  exact x_goto 42 dX9_push_28 (by decide) (K)
theorem bX9_push_31 {I : Nat → Nat → Int32} {L : Nat → Int64} {Q : Option Value → (Nat → Nat → Int32) → (Nat → Int64) → Prop} {v1 : Int32} {v2 : Int32}  (K : XS mX2_hasNode 0 [(0, .ref 1), (1, .int v2)] [] I L (fun r I' L' => XS mX9_push 39 [(0, .ref 0), (1, .int v1), (2, .int v2)] (r.toList ++ []) I' L' Q)) : XS mX9_push 31 [(0, .ref 0), (1, .int v1), (2, .int v2)] [] I L Q := by
  refine x_aload_n 0 dX9_push_31 rfl rfl ?_
  refine xs_getr dX9_push_32 fl_X9_10 sh_0 rfl rf_0 ?_
  refine x_iload_n 2 dX9_push_35 rfl rfl ?_
  exact xs_callV mX2_hasNode [.int v2] [] 1 2 1 _ rfl dX9_push_36 ml_X9_169 qX2_hasNode rfl ⟨Nat.le_of_ble_eq_true rfl, Nat.le_of_ble_eq_true rfl⟩ ⟨rfl, rfl⟩ (Nat.le_of_ble_eq_true rfl) sh_1 (by decide) rfl (Nat.le_of_ble_eq_true rfl) (K)
theorem bX9_push_39 {I : Nat → Nat → Int32} {L : Nat → Int64} {Q : Option Value → (Nat → Nat → Int32) → (Nat → Int64) → Prop} {v1 : Int32} {v2 : Int32} {s0 : Int32}  (K1 : (¬ s0 = 0) → XS mX9_push 45 [(0, .ref 0), (1, .int v1), (2, .int v2)] [] I L Q) (K2 : (s0 = 0) → XS mX9_push 42 [] [] I L Q) : XS mX9_push 39 [(0, .ref 0), (1, .int v1), (2, .int v2)] [.int s0] I L Q := by
  exact x_if_ne 45 dX9_push_39 (by decide) (fun h => K1 h) (fun h => x_sub [] rfl (K2 h))
theorem bX9_push_42 {I : Nat → Nat → Int32} {L : Nat → Int64} {Q : Option Value → (Nat → Nat → Int32) → (Nat → Int64) → Prop}   (K : Q (some (.int (-2 : Int32))) I L) : XS mX9_push 42 [] [] I L Q := by
  refine x_bipush (v := (-2 : Int32)) dX9_push_42 (by decide) ?_
  exact xs_iret dX9_push_44 rfl rfl K
theorem bX9_push_45 {I : Nat → Nat → Int32} {L : Nat → Int64} {Q : Option Value → (Nat → Nat → Int32) → (Nat → Int64) → Prop} {v1 : Int32} {v2 : Int32}  (K1 : ((I 1666 0) < (8 : Int32)) → XS mX9_push 60 [(0, .ref 0), (1, .int v1), (2, .int v2)] [] I L Q) (K2 : (¬ (I 1666 0) < (8 : Int32)) → XS mX9_push 57 [] [] I L Q) : XS mX9_push 45 [(0, .ref 0), (1, .int v1), (2, .int v2)] [] I L Q := by
  refine x_aload_n 0 dX9_push_45 rfl rfl ?_
  refine xs_getr dX9_push_46 fl_X9_53 sh_0 rfl rf_5 ?_
  refine xs_geti 1666 dX9_push_49 fl_X9_124 sh_26 rfl rfl ?_
  refine x_bipush (v := (8 : Int32)) dX9_push_52 (by decide) ?_
  exact x_icmp_lt 60 dX9_push_54 (by decide) (fun h => K1 h) (fun h => x_sub [] rfl (K2 h))
theorem bX9_push_57 {I : Nat → Nat → Int32} {L : Nat → Int64} {Q : Option Value → (Nat → Nat → Int32) → (Nat → Int64) → Prop}   (K : Q (some (.int (-5 : Int32))) I L) : XS mX9_push 57 [] [] I L Q := by
  refine x_bipush (v := (-5 : Int32)) dX9_push_57 (by decide) ?_
  exact xs_iret dX9_push_59 rfl rfl K
theorem bX9_push_60 {I : Nat → Nat → Int32} {L : Nat → Int64} {Q : Option Value → (Nat → Nat → Int32) → (Nat → Int64) → Prop} {v1 : Int32} {v2 : Int32}  (K : XS mX7_put 0 [(0, .ref 26), (1, .int v1), (2, .int v2)] [] I L (fun r I' L' => XS mX9_push 69 [(0, .ref 0)] (r.toList ++ []) I' L' Q)) : XS mX9_push 60 [(0, .ref 0), (1, .int v1), (2, .int v2)] [] I L Q := by
  refine x_aload_n 0 dX9_push_60 rfl rfl ?_
  refine xs_getr dX9_push_61 fl_X9_53 sh_0 rfl rf_5 ?_
  refine x_iload_n 1 dX9_push_64 rfl rfl ?_
  refine x_iload_n 2 dX9_push_65 rfl rfl ?_
  refine x_sub [0] rfl ?_
  exact xs_callV mX7_put [.int v1, .int v2] [] 26 7 2 _ rfl dX9_push_66 ml_X9_219 qX7_put rfl ⟨Nat.le_of_ble_eq_true rfl, Nat.le_of_ble_eq_true rfl⟩ ⟨rfl, rfl⟩ (Nat.le_of_ble_eq_true rfl) sh_26 (by decide) rfl (Nat.le_of_ble_eq_true rfl) (K)
theorem bX9_push_69 {I : Nat → Nat → Int32} {L : Nat → Int64} {Q : Option Value → (Nat → Nat → Int32) → (Nat → Int64) → Prop}   (K : Q (some (.int (I 1666 0))) I L) : XS mX9_push 69 [(0, .ref 0)] [] I L Q := by
  refine x_aload_n 0 dX9_push_69 rfl rfl ?_
  refine xs_getr dX9_push_70 fl_X9_53 sh_0 rfl rf_5 ?_
  refine xs_geti 1666 dX9_push_73 fl_X9_124 sh_26 rfl rfl ?_
  exact xs_iret dX9_push_76 rfl rfl K
theorem bX9_clear_0 {I : Nat → Nat → Int32} {L : Nat → Int64} {Q : Option Value → (Nat → Nat → Int32) → (Nat → Int64) → Prop}   (K : Q (some (.int (I 1666 0))) (x_up I 1666 0 (0 : Int32)) L) : XS mX9_clear 0 [(0, .ref 0)] [] I L Q := by
  refine x_aload_n 0 dX9_clear_0 rfl rfl ?_
  refine xs_getr dX9_clear_1 fl_X9_53 sh_0 rfl rf_5 ?_
  refine xs_geti 1666 dX9_clear_4 fl_X9_124 sh_26 rfl rfl ?_
  refine x_istore_n [(0, .ref 0), (1, .int (I 1666 0))] dX9_clear_7 rfl (Nat.le_of_ble_eq_true rfl) rfl ?_
  refine x_aload_n 0 dX9_clear_8 rfl rfl ?_
  refine xs_getr dX9_clear_9 fl_X9_53 sh_0 rfl rf_5 ?_
  refine x_iconst (v := (0 : Int32)) dX9_clear_12 (by decide) ?_
  refine xs_puti 1666 dX9_clear_13 fl_X9_124 sh_26 rfl rfl rfl ?_
  refine x_iload_n 1 dX9_clear_16 rfl rfl ?_
  exact xs_iret dX9_clear_17 rfl rfl K
theorem bX9_segment_0 {I : Nat → Nat → Int32} {L : Nat → Int64} {Q : Option Value → (Nat → Nat → Int32) → (Nat → Int64) → Prop} {v1 : Int32} {v2 : Int32}  (K1 : (v1 < 0) → XS mX9_segment 15 [] [] I L Q) (K2 : (¬ v1 < 0) → XS mX9_segment 4 [(0, .ref 0), (1, .int v1), (2, .int v2)] [] I L Q) : XS mX9_segment 0 [(0, .ref 0), (1, .int v1), (2, .int v2)] [] I L Q := by
  refine x_iload_n 1 dX9_segment_0 rfl rfl ?_
  exact x_if_lt 15 dX9_segment_1 (by decide) (fun h => x_sub [] rfl (K1 h)) (fun h => K2 h)
theorem bX9_segment_4 {I : Nat → Nat → Int32} {L : Nat → Int64} {Q : Option Value → (Nat → Nat → Int32) → (Nat → Int64) → Prop} {v1 : Int32} {v2 : Int32}  (K1 : (v1 < (I 1666 0)) → XS mX9_segment 18 [(0, .ref 0), (1, .int v1), (2, .int v2)] [] I L Q) (K2 : (¬ v1 < (I 1666 0)) → XS mX9_segment 15 [] [] I L Q) : XS mX9_segment 4 [(0, .ref 0), (1, .int v1), (2, .int v2)] [] I L Q := by
  refine x_iload_n 1 dX9_segment_4 rfl rfl ?_
  refine x_aload_n 0 dX9_segment_5 rfl rfl ?_
  refine xs_getr dX9_segment_6 fl_X9_53 sh_0 rfl rf_5 ?_
  refine xs_geti 1666 dX9_segment_9 fl_X9_124 sh_26 rfl rfl ?_
  exact x_icmp_lt 18 dX9_segment_12 (by decide) (fun h => K1 h) (fun h => x_sub [] rfl (K2 h))
theorem bX9_segment_15 {I : Nat → Nat → Int32} {L : Nat → Int64} {Q : Option Value → (Nat → Nat → Int32) → (Nat → Int64) → Prop}   (K : Q (some (.int (-2 : Int32))) I L) : XS mX9_segment 15 [] [] I L Q := by
  refine x_bipush (v := (-2 : Int32)) dX9_segment_15 (by decide) ?_
  exact xs_iret dX9_segment_17 rfl rfl K
theorem bX9_segment_18 {I : Nat → Nat → Int32} {L : Nat → Int64} {Q : Option Value → (Nat → Nat → Int32) → (Nat → Int64) → Prop} {v1 : Int32} {v2 : Int32}  (K1 : (v2 = 0) → XS mX9_segment 30 [(0, .ref 0), (1, .int v1), (2, .int v2)] [] I L Q) (K2 : (¬ v2 = 0) → XS mX9_segment 22 [(0, .ref 0), (1, .int v1), (2, .int v2)] [] I L Q) : XS mX9_segment 18 [(0, .ref 0), (1, .int v1), (2, .int v2)] [] I L Q := by
  refine x_iload_n 2 dX9_segment_18 rfl rfl ?_
  exact x_if_eq 30 dX9_segment_19 (by decide) (fun h => K1 h) (fun h => K2 h)
theorem bX9_segment_22 {I : Nat → Nat → Int32} {L : Nat → Int64} {Q : Option Value → (Nat → Nat → Int32) → (Nat → Int64) → Prop} {v1 : Int32} {v2 : Int32}  (K1 : (v2 = (1 : Int32)) → XS mX9_segment 30 [(0, .ref 0), (1, .int v1), (2, .int v2)] [] I L Q) (K2 : (¬ v2 = (1 : Int32)) → XS mX9_segment 27 [] [] I L Q) : XS mX9_segment 22 [(0, .ref 0), (1, .int v1), (2, .int v2)] [] I L Q := by
  refine x_iload_n 2 dX9_segment_22 rfl rfl ?_
  refine x_iconst (v := (1 : Int32)) dX9_segment_23 (by decide) ?_
  exact x_icmp_eq 30 dX9_segment_24 (by decide) (fun h => K1 h) (fun h => x_sub [] rfl (K2 h))
theorem bX9_segment_27 {I : Nat → Nat → Int32} {L : Nat → Int64} {Q : Option Value → (Nat → Nat → Int32) → (Nat → Int64) → Prop}   (K : Q (some (.int (-3 : Int32))) I L) : XS mX9_segment 27 [] [] I L Q := by
  refine x_bipush (v := (-3 : Int32)) dX9_segment_27 (by decide) ?_
  exact xs_iret dX9_segment_29 rfl rfl K
theorem bX9_segment_30 {I : Nat → Nat → Int32} {L : Nat → Int64} {Q : Option Value → (Nat → Nat → Int32) → (Nat → Int64) → Prop} {v1 : Int32} {v2 : Int32}  (K1 : (¬ v2 = 0) → XS mX9_segment 46 [(0, .ref 0), (1, .int v1)] [] I L Q) (K2 : (v2 = 0) → XS mX9_segment 34 [(0, .ref 0), (1, .int v1)] [] I L Q) : XS mX9_segment 30 [(0, .ref 0), (1, .int v1), (2, .int v2)] [] I L Q := by
  refine x_iload_n 2 dX9_segment_30 rfl rfl ?_
  exact x_if_ne 46 dX9_segment_31 (by decide) (fun h => x_sub [0, 1] rfl (K1 h)) (fun h => x_sub [0, 1] rfl (K2 h))
theorem bX9_segment_34 {I : Nat → Nat → Int32} {L : Nat → Int64} {Q : Option Value → (Nat → Nat → Int32) → (Nat → Int64) → Prop} {v1 : Int32} (hb1 : vp_in v1 8) (K : XS mX9_segment 55 [] [.int (I 1728 (v1.toNatClampNeg))] I L Q) : XS mX9_segment 34 [(0, .ref 0), (1, .int v1)] [] I L Q := by
  refine x_aload_n 0 dX9_segment_34 rfl rfl ?_
  refine xs_getr dX9_segment_35 fl_X9_53 sh_0 rfl rf_5 ?_
  refine xs_getr dX9_segment_38 fl_X9_223 sh_26 rfl rf_1664 ?_
  refine x_iload_n 1 dX9_segment_41 rfl rfl ?_
  refine xs_iald 1728 (v1.toNatClampNeg) dX9_segment_42 sh_27 rfl rfl hb1 ?_
  exact x_goto 55 dX9_segment_43 (by decide) (x_sub [] rfl (K))
theorem bX9_segment_46 {I : Nat → Nat → Int32} {L : Nat → Int64} {Q : Option Value → (Nat → Nat → Int32) → (Nat → Int64) → Prop} {v1 : Int32} (hb1 : vp_in v1 8) (K : XS mX9_segment 55 [] [.int (I 1792 (v1.toNatClampNeg))] I L Q) : XS mX9_segment 46 [(0, .ref 0), (1, .int v1)] [] I L Q := by
  refine x_aload_n 0 dX9_segment_46 rfl rfl ?_
  refine xs_getr dX9_segment_47 fl_X9_53 sh_0 rfl rf_5 ?_
  refine xs_getr dX9_segment_50 fl_X9_226 sh_26 rfl rf_1665 ?_
  refine x_iload_n 1 dX9_segment_53 rfl rfl ?_
  refine xs_iald 1792 (v1.toNatClampNeg) dX9_segment_54 sh_28 rfl rfl hb1 ?_
  exact x_sub [] rfl (K)
theorem bX9_segment_55 {I : Nat → Nat → Int32} {L : Nat → Int64} {Q : Option Value → (Nat → Nat → Int32) → (Nat → Int64) → Prop} {s0 : Int32}  (K : Q (some (.int s0)) I L) : XS mX9_segment 55 [] [.int s0] I L Q := by
  exact xs_iret dX9_segment_55 rfl rfl K
theorem bX9_repair_0 {I : Nat → Nat → Int32} {L : Nat → Int64} {Q : Option Value → (Nat → Nat → Int32) → (Nat → Int64) → Prop} {v1 : Int32} {v2 : Int32} {v3 : Int32} {v4 : Int32}  (K : XS mX2_hasNode 0 [(0, .ref 1), (1, .int v1)] [] I L (fun r I' L' => XS mX9_repair 8 [(0, .ref 0), (1, .int v1), (2, .int v2), (3, .int v3), (4, .int v4)] (r.toList ++ []) I' L' Q)) : XS mX9_repair 0 [(0, .ref 0), (1, .int v1), (2, .int v2), (3, .int v3), (4, .int v4)] [] I L Q := by
  refine x_aload_n 0 dX9_repair_0 rfl rfl ?_
  refine xs_getr dX9_repair_1 fl_X9_10 sh_0 rfl rf_0 ?_
  refine x_iload_n 1 dX9_repair_4 rfl rfl ?_
  exact xs_callV mX2_hasNode [.int v1] [] 1 2 1 _ rfl dX9_repair_5 ml_X9_169 qX2_hasNode rfl ⟨Nat.le_of_ble_eq_true rfl, Nat.le_of_ble_eq_true rfl⟩ ⟨rfl, rfl⟩ (Nat.le_of_ble_eq_true rfl) sh_1 (by decide) rfl (Nat.le_of_ble_eq_true rfl) (K)
theorem bX9_repair_8 {I : Nat → Nat → Int32} {L : Nat → Int64} {Q : Option Value → (Nat → Nat → Int32) → (Nat → Int64) → Prop} {v1 : Int32} {v2 : Int32} {v3 : Int32} {v4 : Int32} {s0 : Int32}  (K1 : (s0 = 0) → XS mX9_repair 38 [] [] I L Q) (K2 : (¬ s0 = 0) → XS mX9_repair 11 [(0, .ref 0), (1, .int v1), (2, .int v2), (3, .int v3), (4, .int v4)] [] I L Q) : XS mX9_repair 8 [(0, .ref 0), (1, .int v1), (2, .int v2), (3, .int v3), (4, .int v4)] [.int s0] I L Q := by
  exact x_if_eq 38 dX9_repair_8 (by decide) (fun h => x_sub [] rfl (K1 h)) (fun h => K2 h)
theorem bX9_repair_11 {I : Nat → Nat → Int32} {L : Nat → Int64} {Q : Option Value → (Nat → Nat → Int32) → (Nat → Int64) → Prop} {v1 : Int32} {v2 : Int32} {v3 : Int32} {v4 : Int32}  (K : XS mX2_hasLink 0 [(0, .ref 1), (1, .int v2)] [] I L (fun r I' L' => XS mX9_repair 19 [(0, .ref 0), (1, .int v1), (2, .int v2), (3, .int v3), (4, .int v4)] (r.toList ++ []) I' L' Q)) : XS mX9_repair 11 [(0, .ref 0), (1, .int v1), (2, .int v2), (3, .int v3), (4, .int v4)] [] I L Q := by
  refine x_aload_n 0 dX9_repair_11 rfl rfl ?_
  refine xs_getr dX9_repair_12 fl_X9_10 sh_0 rfl rf_0 ?_
  refine x_iload_n 2 dX9_repair_15 rfl rfl ?_
  exact xs_callV mX2_hasLink [.int v2] [] 1 2 1 _ rfl dX9_repair_16 ml_X9_133 qX2_hasLink rfl ⟨Nat.le_of_ble_eq_true rfl, Nat.le_of_ble_eq_true rfl⟩ ⟨rfl, rfl⟩ (Nat.le_of_ble_eq_true rfl) sh_1 (by decide) rfl (Nat.le_of_ble_eq_true rfl) (K)
theorem bX9_repair_19 {I : Nat → Nat → Int32} {L : Nat → Int64} {Q : Option Value → (Nat → Nat → Int32) → (Nat → Int64) → Prop} {v1 : Int32} {v2 : Int32} {v3 : Int32} {v4 : Int32} {s0 : Int32}  (K1 : (s0 = 0) → XS mX9_repair 38 [] [] I L Q) (K2 : (¬ s0 = 0) → XS mX9_repair 22 [(0, .ref 0), (1, .int v1), (2, .int v2), (3, .int v3), (4, .int v4)] [] I L Q) : XS mX9_repair 19 [(0, .ref 0), (1, .int v1), (2, .int v2), (3, .int v3), (4, .int v4)] [.int s0] I L Q := by
  exact x_if_eq 38 dX9_repair_19 (by decide) (fun h => x_sub [] rfl (K1 h)) (fun h => K2 h)
theorem bX9_repair_22 {I : Nat → Nat → Int32} {L : Nat → Int64} {Q : Option Value → (Nat → Nat → Int32) → (Nat → Int64) → Prop} {v1 : Int32} {v2 : Int32} {v3 : Int32} {v4 : Int32}  (K : XS mX2_hasNode 0 [(0, .ref 1), (1, .int v3)] [] I L (fun r I' L' => XS mX9_repair 30 [(0, .ref 0), (1, .int v1), (2, .int v2), (3, .int v3), (4, .int v4)] (r.toList ++ []) I' L' Q)) : XS mX9_repair 22 [(0, .ref 0), (1, .int v1), (2, .int v2), (3, .int v3), (4, .int v4)] [] I L Q := by
  refine x_aload_n 0 dX9_repair_22 rfl rfl ?_
  refine xs_getr dX9_repair_23 fl_X9_10 sh_0 rfl rf_0 ?_
  refine x_iload_n 3 dX9_repair_26 rfl rfl ?_
  exact xs_callV mX2_hasNode [.int v3] [] 1 2 1 _ rfl dX9_repair_27 ml_X9_169 qX2_hasNode rfl ⟨Nat.le_of_ble_eq_true rfl, Nat.le_of_ble_eq_true rfl⟩ ⟨rfl, rfl⟩ (Nat.le_of_ble_eq_true rfl) sh_1 (by decide) rfl (Nat.le_of_ble_eq_true rfl) (K)
theorem bX9_repair_30 {I : Nat → Nat → Int32} {L : Nat → Int64} {Q : Option Value → (Nat → Nat → Int32) → (Nat → Int64) → Prop} {v1 : Int32} {v2 : Int32} {v3 : Int32} {v4 : Int32} {s0 : Int32}  (K1 : (s0 = 0) → XS mX9_repair 38 [] [] I L Q) (K2 : (¬ s0 = 0) → XS mX9_repair 33 [(0, .ref 0), (1, .int v1), (2, .int v2), (3, .int v3), (4, .int v4)] [] I L Q) : XS mX9_repair 30 [(0, .ref 0), (1, .int v1), (2, .int v2), (3, .int v3), (4, .int v4)] [.int s0] I L Q := by
  exact x_if_eq 38 dX9_repair_30 (by decide) (fun h => x_sub [] rfl (K1 h)) (fun h => K2 h)
theorem bX9_repair_33 {I : Nat → Nat → Int32} {L : Nat → Int64} {Q : Option Value → (Nat → Nat → Int32) → (Nat → Int64) → Prop} {v1 : Int32} {v2 : Int32} {v3 : Int32} {v4 : Int32}  (K1 : (¬ v3 = v1) → XS mX9_repair 41 [(0, .ref 0), (1, .int v1), (2, .int v2), (3, .int v3), (4, .int v4)] [] I L Q) (K2 : (v3 = v1) → XS mX9_repair 38 [] [] I L Q) : XS mX9_repair 33 [(0, .ref 0), (1, .int v1), (2, .int v2), (3, .int v3), (4, .int v4)] [] I L Q := by
  refine x_iload_n 3 dX9_repair_33 rfl rfl ?_
  refine x_iload_n 1 dX9_repair_34 rfl rfl ?_
  exact x_icmp_ne 41 dX9_repair_35 (by decide) (fun h => K1 h) (fun h => x_sub [] rfl (K2 h))
theorem bX9_repair_38 {I : Nat → Nat → Int32} {L : Nat → Int64} {Q : Option Value → (Nat → Nat → Int32) → (Nat → Int64) → Prop}   (K : Q (some (.int (-2 : Int32))) I L) : XS mX9_repair 38 [] [] I L Q := by
  refine x_bipush (v := (-2 : Int32)) dX9_repair_38 (by decide) ?_
  exact xs_iret dX9_repair_40 rfl rfl K
theorem bX9_repair_41 {I : Nat → Nat → Int32} {L : Nat → Int64} {Q : Option Value → (Nat → Nat → Int32) → (Nat → Int64) → Prop} {v1 : Int32} {v2 : Int32} {v3 : Int32} {v4 : Int32}  (K1 : ((-1 : Int32) ≤ v4) → XS mX9_repair 50 [(0, .ref 0), (1, .int v1), (2, .int v2), (3, .int v3), (4, .int v4)] [] I L Q) (K2 : (¬ (-1 : Int32) ≤ v4) → XS mX9_repair 47 [] [] I L Q) : XS mX9_repair 41 [(0, .ref 0), (1, .int v1), (2, .int v2), (3, .int v3), (4, .int v4)] [] I L Q := by
  refine x_iload 4 dX9_repair_41 rfl ?_
  refine x_iconst (v := (-1 : Int32)) dX9_repair_43 (by decide) ?_
  exact x_icmp_ge 50 dX9_repair_44 (by decide) (fun h => K1 h) (fun h => x_sub [] rfl (K2 h))
theorem bX9_repair_47 {I : Nat → Nat → Int32} {L : Nat → Int64} {Q : Option Value → (Nat → Nat → Int32) → (Nat → Int64) → Prop}   (K : Q (some (.int (-3 : Int32))) I L) : XS mX9_repair 47 [] [] I L Q := by
  refine x_bipush (v := (-3 : Int32)) dX9_repair_47 (by decide) ?_
  exact xs_iret dX9_repair_49 rfl rfl K
theorem bX9_repair_50 {I : Nat → Nat → Int32} {L : Nat → Int64} {Q : Option Value → (Nat → Nat → Int32) → (Nat → Int64) → Prop} {v1 : Int32} {v2 : Int32} {v3 : Int32} {v4 : Int32}  (K : XS mX0_findRepair 0 [(0, .ref 31), (1, .int v1), (2, .int v2), (3, .int v3)] [] I L (fun r I' L' => XS mX9_repair 60 [(0, .ref 0), (4, .int v4)] (r.toList ++ []) I' L' Q)) : XS mX9_repair 50 [(0, .ref 0), (1, .int v1), (2, .int v2), (3, .int v3), (4, .int v4)] [] I L Q := by
  refine x_aload_n 0 dX9_repair_50 rfl rfl ?_
  refine xs_getr dX9_repair_51 fl_X9_67 sh_0 rfl rf_7 ?_
  refine x_iload_n 1 dX9_repair_54 rfl rfl ?_
  refine x_iload_n 2 dX9_repair_55 rfl rfl ?_
  refine x_iload_n 3 dX9_repair_56 rfl rfl ?_
  refine x_sub [0, 4] rfl ?_
  exact xs_callV mX0_findRepair [.int v1, .int v2, .int v3] [] 31 0 3 _ rfl dX9_repair_57 ml_X9_229 qX0_findRepair rfl ⟨Nat.le_of_ble_eq_true rfl, Nat.le_of_ble_eq_true rfl⟩ ⟨rfl, rfl⟩ (Nat.le_of_ble_eq_true rfl) sh_31 (by decide) rfl (Nat.le_of_ble_eq_true rfl) (K)
theorem bX9_repair_60 {I : Nat → Nat → Int32} {L : Nat → Int64} {Q : Option Value → (Nat → Nat → Int32) → (Nat → Int64) → Prop} {v4 : Int32} {s0 : Int32}  (K1 : (s0 = 0) → XS mX9_repair 78 [] [] I L Q) (K2 : (¬ s0 = 0) → XS mX9_repair 63 [(0, .ref 0), (4, .int v4)] [] I L Q) : XS mX9_repair 60 [(0, .ref 0), (4, .int v4)] [.int s0] I L Q := by
  exact x_if_eq 78 dX9_repair_60 (by decide) (fun h => x_sub [] rfl (K1 h)) (fun h => K2 h)
theorem bX9_repair_63 {I : Nat → Nat → Int32} {L : Nat → Int64} {Q : Option Value → (Nat → Nat → Int32) → (Nat → Int64) → Prop} {v4 : Int32}  (K : XS mX7_told 0 [(0, .ref 40), (1, .int v4)] [] I L (fun r I' L' => XS mX9_repair 75 [] (r.toList ++ []) I' L' Q)) : XS mX9_repair 63 [(0, .ref 0), (4, .int v4)] [] I L Q := by
  refine x_aload_n 0 dX9_repair_63 rfl rfl ?_
  refine xs_getr dX9_repair_64 fl_X9_67 sh_0 rfl rf_7 ?_
  refine xs_getr dX9_repair_67 fl_X9_233 sh_31 rfl rf_1993 ?_
  refine x_iload 1 dX9_repair_70 rfl ?_
  refine x_sub [] rfl ?_
  exact xs_callV mX7_told [.int v4] [] 40 7 1 _ rfl dX9_repair_72 ml_X9_236 qX7_told rfl ⟨Nat.le_of_ble_eq_true rfl, Nat.le_of_ble_eq_true rfl⟩ ⟨rfl, rfl⟩ (Nat.le_of_ble_eq_true rfl) sh_40 (by decide) rfl (Nat.le_of_ble_eq_true rfl) (K)
theorem bX9_repair_75 {I : Nat → Nat → Int32} {L : Nat → Int64} {Q : Option Value → (Nat → Nat → Int32) → (Nat → Int64) → Prop} {s0 : Int32}  (K : XS mX9_repair 80 [] [.int s0] I L Q) : XS mX9_repair 75 [] [.int s0] I L Q := by
  exact x_goto 80 dX9_repair_75 (by decide) (K)
theorem bX9_repair_78 {I : Nat → Nat → Int32} {L : Nat → Int64} {Q : Option Value → (Nat → Nat → Int32) → (Nat → Int64) → Prop}   (K : XS mX9_repair 80 [] [.int (-4 : Int32)] I L Q) : XS mX9_repair 78 [] [] I L Q := by
  refine x_bipush (v := (-4 : Int32)) dX9_repair_78 (by decide) ?_
  exact K
theorem bX9_repair_80 {I : Nat → Nat → Int32} {L : Nat → Int64} {Q : Option Value → (Nat → Nat → Int32) → (Nat → Int64) → Prop} {s0 : Int32}  (K : Q (some (.int s0)) I L) : XS mX9_repair 80 [] [.int s0] I L Q := by
  exact xs_iret dX9_repair_80 rfl rfl K
theorem bX9_trace_0 {I : Nat → Nat → Int32} {L : Nat → Int64} {Q : Option Value → (Nat → Nat → Int32) → (Nat → Int64) → Prop} {v1 : Int32}  (K : XS mX2_hasNode 0 [(0, .ref 1), (1, .int v1)] [] I L (fun r I' L' => XS mX9_trace 8 [(0, .ref 0), (1, .int v1)] (r.toList ++ []) I' L' Q)) : XS mX9_trace 0 [(0, .ref 0), (1, .int v1)] [] I L Q := by
  refine x_aload_n 0 dX9_trace_0 rfl rfl ?_
  refine xs_getr dX9_trace_1 fl_X9_10 sh_0 rfl rf_0 ?_
  refine x_iload_n 1 dX9_trace_4 rfl rfl ?_
  exact xs_callV mX2_hasNode [.int v1] [] 1 2 1 _ rfl dX9_trace_5 ml_X9_169 qX2_hasNode rfl ⟨Nat.le_of_ble_eq_true rfl, Nat.le_of_ble_eq_true rfl⟩ ⟨rfl, rfl⟩ (Nat.le_of_ble_eq_true rfl) sh_1 (by decide) rfl (Nat.le_of_ble_eq_true rfl) (K)
theorem bX9_trace_8 {I : Nat → Nat → Int32} {L : Nat → Int64} {Q : Option Value → (Nat → Nat → Int32) → (Nat → Int64) → Prop} {v1 : Int32} {s0 : Int32}  (K1 : (¬ s0 = 0) → XS mX9_trace 14 [(0, .ref 0), (1, .int v1)] [] I L Q) (K2 : (s0 = 0) → XS mX9_trace 11 [] [] I L Q) : XS mX9_trace 8 [(0, .ref 0), (1, .int v1)] [.int s0] I L Q := by
  exact x_if_ne 14 dX9_trace_8 (by decide) (fun h => K1 h) (fun h => x_sub [] rfl (K2 h))
theorem bX9_trace_11 {I : Nat → Nat → Int32} {L : Nat → Int64} {Q : Option Value → (Nat → Nat → Int32) → (Nat → Int64) → Prop}   (K : Q (some (.int (-2 : Int32))) I L) : XS mX9_trace 11 [] [] I L Q := by
  refine x_bipush (v := (-2 : Int32)) dX9_trace_11 (by decide) ?_
  exact xs_iret dX9_trace_13 rfl rfl K
theorem bX9_trace_14 {I : Nat → Nat → Int32} {L : Nat → Int64} {Q : Option Value → (Nat → Nat → Int32) → (Nat → Int64) → Prop} {v1 : Int32}  (K : XS mX6_last 0 [(0, .ref 29)] [] I L (fun r I' L' => XS mX9_trace 21 [(0, .ref 0), (1, .int v1)] (r.toList ++ []) I' L' Q)) : XS mX9_trace 14 [(0, .ref 0), (1, .int v1)] [] I L Q := by
  refine x_aload_n 0 dX9_trace_14 rfl rfl ?_
  refine xs_getr dX9_trace_15 fl_X9_60 sh_0 rfl rf_6 ?_
  exact xs_callV mX6_last [] [] 29 6 0 _ rfl dX9_trace_18 ml_X9_237 qX6_last rfl ⟨Nat.le_of_ble_eq_true rfl, Nat.le_of_ble_eq_true rfl⟩ ⟨rfl, rfl⟩ (Nat.le_of_ble_eq_true rfl) sh_29 (by decide) rfl (Nat.le_of_ble_eq_true rfl) (K)
theorem bX9_trace_21 {I : Nat → Nat → Int32} {L : Nat → Int64} {Q : Option Value → (Nat → Nat → Int32) → (Nat → Int64) → Prop} {v1 : Int32} {s0 : Int32}  (K : XS mX6_has 0 [(0, .ref 29), (1, .int v1)] [] I L (fun r I' L' => XS mX9_trace 30 [(0, .ref 0), (1, .int v1), (2, .int s0)] (r.toList ++ []) I' L' Q)) : XS mX9_trace 21 [(0, .ref 0), (1, .int v1)] [.int s0] I L Q := by
  refine x_istore_n [(0, .ref 0), (1, .int v1), (2, .int s0)] dX9_trace_21 rfl (Nat.le_of_ble_eq_true rfl) rfl ?_
  refine x_aload_n 0 dX9_trace_22 rfl rfl ?_
  refine xs_getr dX9_trace_23 fl_X9_60 sh_0 rfl rf_6 ?_
  refine x_iload_n 1 dX9_trace_26 rfl rfl ?_
  exact xs_callV mX6_has [.int v1] [] 29 6 1 _ rfl dX9_trace_27 ml_X9_240 qX6_has rfl ⟨Nat.le_of_ble_eq_true rfl, Nat.le_of_ble_eq_true rfl⟩ ⟨rfl, rfl⟩ (Nat.le_of_ble_eq_true rfl) sh_29 (by decide) rfl (Nat.le_of_ble_eq_true rfl) (K)
theorem bX9_trace_30 {I : Nat → Nat → Int32} {L : Nat → Int64} {Q : Option Value → (Nat → Nat → Int32) → (Nat → Int64) → Prop} {v1 : Int32} {v2 : Int32} {s0 : Int32}  (K1 : (¬ s0 = 0) → XS mX9_trace 51 [] [] I L Q) (K2 : (s0 = 0) → XS mX9_trace 33 [(0, .ref 0), (1, .int v1), (2, .int v2)] [] I L Q) : XS mX9_trace 30 [(0, .ref 0), (1, .int v1), (2, .int v2)] [.int s0] I L Q := by
  exact x_if_ne 51 dX9_trace_30 (by decide) (fun h => x_sub [] rfl (K1 h)) (fun h => K2 h)
theorem bX9_trace_33 {I : Nat → Nat → Int32} {L : Nat → Int64} {Q : Option Value → (Nat → Nat → Int32) → (Nat → Int64) → Prop} {v1 : Int32} {v2 : Int32}  (K1 : (v2 = (-1 : Int32)) → XS mX9_trace 54 [(0, .ref 0), (1, .int v1)] [] I L Q) (K2 : (¬ v2 = (-1 : Int32)) → XS mX9_trace 38 [(0, .ref 0), (1, .int v1), (2, .int v2)] [] I L Q) : XS mX9_trace 33 [(0, .ref 0), (1, .int v1), (2, .int v2)] [] I L Q := by
  refine x_iload_n 2 dX9_trace_33 rfl rfl ?_
  refine x_iconst (v := (-1 : Int32)) dX9_trace_34 (by decide) ?_
  exact x_icmp_eq 54 dX9_trace_35 (by decide) (fun h => x_sub [0, 1] rfl (K1 h)) (fun h => K2 h)
theorem bX9_trace_38 {I : Nat → Nat → Int32} {L : Nat → Int64} {Q : Option Value → (Nat → Nat → Int32) → (Nat → Int64) → Prop} {v1 : Int32} {v2 : Int32}  (K : XS mX2_linkBetween 0 [(0, .ref 1), (1, .int v2), (2, .int v1)] [] I L (fun r I' L' => XS mX9_trace 47 [(0, .ref 0), (1, .int v1)] (r.toList ++ []) I' L' Q)) : XS mX9_trace 38 [(0, .ref 0), (1, .int v1), (2, .int v2)] [] I L Q := by
  refine x_aload_n 0 dX9_trace_38 rfl rfl ?_
  refine xs_getr dX9_trace_39 fl_X9_10 sh_0 rfl rf_0 ?_
  refine x_iload_n 2 dX9_trace_42 rfl rfl ?_
  refine x_iload_n 1 dX9_trace_43 rfl rfl ?_
  refine x_sub [0, 1] rfl ?_
  exact xs_callV mX2_linkBetween [.int v2, .int v1] [] 1 2 2 _ rfl dX9_trace_44 ml_X9_243 qX2_linkBetween rfl ⟨Nat.le_of_ble_eq_true rfl, Nat.le_of_ble_eq_true rfl⟩ ⟨rfl, rfl⟩ (Nat.le_of_ble_eq_true rfl) sh_1 (by decide) rfl (Nat.le_of_ble_eq_true rfl) (K)
theorem bX9_trace_47 {I : Nat → Nat → Int32} {L : Nat → Int64} {Q : Option Value → (Nat → Nat → Int32) → (Nat → Int64) → Prop} {v1 : Int32} {s0 : Int32}  (K1 : (¬ s0 = (-1 : Int32)) → XS mX9_trace 54 [(0, .ref 0), (1, .int v1)] [] I L Q) (K2 : (s0 = (-1 : Int32)) → XS mX9_trace 51 [] [] I L Q) : XS mX9_trace 47 [(0, .ref 0), (1, .int v1)] [.int s0] I L Q := by
  refine x_iconst (v := (-1 : Int32)) dX9_trace_47 (by decide) ?_
  exact x_icmp_ne 54 dX9_trace_48 (by decide) (fun h => K1 h) (fun h => x_sub [] rfl (K2 h))
theorem bX9_trace_51 {I : Nat → Nat → Int32} {L : Nat → Int64} {Q : Option Value → (Nat → Nat → Int32) → (Nat → Int64) → Prop}   (K : Q (some (.int (-4 : Int32))) I L) : XS mX9_trace 51 [] [] I L Q := by
  refine x_bipush (v := (-4 : Int32)) dX9_trace_51 (by decide) ?_
  exact xs_iret dX9_trace_53 rfl rfl K
theorem bX9_trace_54 {I : Nat → Nat → Int32} {L : Nat → Int64} {Q : Option Value → (Nat → Nat → Int32) → (Nat → Int64) → Prop} {v1 : Int32}  (K1 : ((I 1857 0) < (8 : Int32)) → XS mX9_trace 69 [(0, .ref 0), (1, .int v1)] [] I L Q) (K2 : (¬ (I 1857 0) < (8 : Int32)) → XS mX9_trace 66 [] [] I L Q) : XS mX9_trace 54 [(0, .ref 0), (1, .int v1)] [] I L Q := by
  refine x_aload_n 0 dX9_trace_54 rfl rfl ?_
  refine xs_getr dX9_trace_55 fl_X9_60 sh_0 rfl rf_6 ?_
  refine xs_geti 1857 dX9_trace_58 fl_X9_125 sh_29 rfl rfl ?_
  refine x_bipush (v := (8 : Int32)) dX9_trace_61 (by decide) ?_
  exact x_icmp_lt 69 dX9_trace_63 (by decide) (fun h => K1 h) (fun h => x_sub [] rfl (K2 h))
theorem bX9_trace_66 {I : Nat → Nat → Int32} {L : Nat → Int64} {Q : Option Value → (Nat → Nat → Int32) → (Nat → Int64) → Prop}   (K : Q (some (.int (-5 : Int32))) I L) : XS mX9_trace 66 [] [] I L Q := by
  refine x_bipush (v := (-5 : Int32)) dX9_trace_66 (by decide) ?_
  exact xs_iret dX9_trace_68 rfl rfl K
theorem bX9_trace_69 {I : Nat → Nat → Int32} {L : Nat → Int64} {Q : Option Value → (Nat → Nat → Int32) → (Nat → Int64) → Prop} {v1 : Int32}  (K : XS mX6_put 0 [(0, .ref 29), (1, .int v1)] [] I L (fun r I' L' => XS mX9_trace 77 [(0, .ref 0)] (r.toList ++ []) I' L' Q)) : XS mX9_trace 69 [(0, .ref 0), (1, .int v1)] [] I L Q := by
  refine x_aload_n 0 dX9_trace_69 rfl rfl ?_
  refine xs_getr dX9_trace_70 fl_X9_60 sh_0 rfl rf_6 ?_
  refine x_iload_n 1 dX9_trace_73 rfl rfl ?_
  refine x_sub [0] rfl ?_
  exact xs_callV mX6_put [.int v1] [] 29 6 1 _ rfl dX9_trace_74 ml_X9_246 qX6_put rfl ⟨Nat.le_of_ble_eq_true rfl, Nat.le_of_ble_eq_true rfl⟩ ⟨rfl, rfl⟩ (Nat.le_of_ble_eq_true rfl) sh_29 (by decide) rfl (Nat.le_of_ble_eq_true rfl) (K)
theorem bX9_trace_77 {I : Nat → Nat → Int32} {L : Nat → Int64} {Q : Option Value → (Nat → Nat → Int32) → (Nat → Int64) → Prop}   (K : Q (some (.int (I 1857 0))) I L) : XS mX9_trace 77 [(0, .ref 0)] [] I L Q := by
  refine x_aload_n 0 dX9_trace_77 rfl rfl ?_
  refine xs_getr dX9_trace_78 fl_X9_60 sh_0 rfl rf_6 ?_
  refine xs_geti 1857 dX9_trace_81 fl_X9_125 sh_29 rfl rfl ?_
  exact xs_iret dX9_trace_84 rfl rfl K
theorem bX9_untrace_0 {I : Nat → Nat → Int32} {L : Nat → Int64} {Q : Option Value → (Nat → Nat → Int32) → (Nat → Int64) → Prop}   (K : Q (some (.int (I 1857 0))) (x_up I 1857 0 (0 : Int32)) L) : XS mX9_untrace 0 [(0, .ref 0)] [] I L Q := by
  refine x_aload_n 0 dX9_untrace_0 rfl rfl ?_
  refine xs_getr dX9_untrace_1 fl_X9_60 sh_0 rfl rf_6 ?_
  refine xs_geti 1857 dX9_untrace_4 fl_X9_125 sh_29 rfl rfl ?_
  refine x_istore_n [(0, .ref 0), (1, .int (I 1857 0))] dX9_untrace_7 rfl (Nat.le_of_ble_eq_true rfl) rfl ?_
  refine x_aload_n 0 dX9_untrace_8 rfl rfl ?_
  refine xs_getr dX9_untrace_9 fl_X9_60 sh_0 rfl rf_6 ?_
  refine x_iconst (v := (0 : Int32)) dX9_untrace_12 (by decide) ?_
  refine xs_puti 1857 dX9_untrace_13 fl_X9_125 sh_29 rfl rfl rfl ?_
  refine x_iload_n 1 dX9_untrace_16 rfl rfl ?_
  exact xs_iret dX9_untrace_17 rfl rfl K
theorem bX9_brief_0 {I : Nat → Nat → Int32} {L : Nat → Int64} {Q : Option Value → (Nat → Nat → Int32) → (Nat → Int64) → Prop} {v1 : Int32}  (K1 : ((-1 : Int32) ≤ v1) → XS mX9_brief 8 [(0, .ref 0), (1, .int v1)] [] I L Q) (K2 : (¬ (-1 : Int32) ≤ v1) → XS mX9_brief 5 [] [] I L Q) : XS mX9_brief 0 [(0, .ref 0), (1, .int v1)] [] I L Q := by
  refine x_iload_n 1 dX9_brief_0 rfl rfl ?_
  refine x_iconst (v := (-1 : Int32)) dX9_brief_1 (by decide) ?_
  exact x_icmp_ge 8 dX9_brief_2 (by decide) (fun h => K1 h) (fun h => x_sub [] rfl (K2 h))
theorem bX9_brief_5 {I : Nat → Nat → Int32} {L : Nat → Int64} {Q : Option Value → (Nat → Nat → Int32) → (Nat → Int64) → Prop}   (K : Q (some (.int (-3 : Int32))) I L) : XS mX9_brief 5 [] [] I L Q := by
  refine x_bipush (v := (-3 : Int32)) dX9_brief_5 (by decide) ?_
  exact xs_iret dX9_brief_7 rfl rfl K
theorem bX9_brief_8 {I : Nat → Nat → Int32} {L : Nat → Int64} {Q : Option Value → (Nat → Nat → Int32) → (Nat → Int64) → Prop} {v1 : Int32}  (K : XS mX0_findBrief 0 [(0, .ref 31), (1, .ref 29)] [] I L (fun r I' L' => XS mX9_brief 19 [(0, .ref 0), (1, .int v1)] (r.toList ++ []) I' L' Q)) : XS mX9_brief 8 [(0, .ref 0), (1, .int v1)] [] I L Q := by
  refine x_aload_n 0 dX9_brief_8 rfl rfl ?_
  refine xs_getr dX9_brief_9 fl_X9_67 sh_0 rfl rf_7 ?_
  refine x_aload_n 0 dX9_brief_12 rfl rfl ?_
  refine xs_getr dX9_brief_13 fl_X9_60 sh_0 rfl rf_6 ?_
  exact xs_callV mX0_findBrief [.ref 29] [] 31 0 1 _ rfl dX9_brief_16 ml_X9_248 qX0_findBrief rfl ⟨Nat.le_of_ble_eq_true rfl, Nat.le_of_ble_eq_true rfl⟩ ⟨rfl, rfl⟩ (Nat.le_of_ble_eq_true rfl) sh_31 (by decide) rfl (Nat.le_of_ble_eq_true rfl) (K)
theorem bX9_brief_19 {I : Nat → Nat → Int32} {L : Nat → Int64} {Q : Option Value → (Nat → Nat → Int32) → (Nat → Int64) → Prop} {v1 : Int32} {s0 : Int32}  (K1 : (s0 = 0) → XS mX9_brief 36 [] [] I L Q) (K2 : (¬ s0 = 0) → XS mX9_brief 22 [(0, .ref 0), (1, .int v1)] [] I L Q) : XS mX9_brief 19 [(0, .ref 0), (1, .int v1)] [.int s0] I L Q := by
  exact x_if_eq 36 dX9_brief_19 (by decide) (fun h => x_sub [] rfl (K1 h)) (fun h => K2 h)
theorem bX9_brief_22 {I : Nat → Nat → Int32} {L : Nat → Int64} {Q : Option Value → (Nat → Nat → Int32) → (Nat → Int64) → Prop} {v1 : Int32}  (K : XS mX7_told 0 [(0, .ref 40), (1, .int v1)] [] I L (fun r I' L' => XS mX9_brief 33 [] (r.toList ++ []) I' L' Q)) : XS mX9_brief 22 [(0, .ref 0), (1, .int v1)] [] I L Q := by
  refine x_aload_n 0 dX9_brief_22 rfl rfl ?_
  refine xs_getr dX9_brief_23 fl_X9_67 sh_0 rfl rf_7 ?_
  refine xs_getr dX9_brief_26 fl_X9_233 sh_31 rfl rf_1993 ?_
  refine x_iload_n 1 dX9_brief_29 rfl rfl ?_
  refine x_sub [] rfl ?_
  exact xs_callV mX7_told [.int v1] [] 40 7 1 _ rfl dX9_brief_30 ml_X9_236 qX7_told rfl ⟨Nat.le_of_ble_eq_true rfl, Nat.le_of_ble_eq_true rfl⟩ ⟨rfl, rfl⟩ (Nat.le_of_ble_eq_true rfl) sh_40 (by decide) rfl (Nat.le_of_ble_eq_true rfl) (K)
theorem bX9_brief_33 {I : Nat → Nat → Int32} {L : Nat → Int64} {Q : Option Value → (Nat → Nat → Int32) → (Nat → Int64) → Prop} {s0 : Int32}  (K : XS mX9_brief 38 [] [.int s0] I L Q) : XS mX9_brief 33 [] [.int s0] I L Q := by
  exact x_goto 38 dX9_brief_33 (by decide) (K)
theorem bX9_brief_36 {I : Nat → Nat → Int32} {L : Nat → Int64} {Q : Option Value → (Nat → Nat → Int32) → (Nat → Int64) → Prop}   (K : XS mX9_brief 38 [] [.int (-4 : Int32)] I L Q) : XS mX9_brief 36 [] [] I L Q := by
  refine x_bipush (v := (-4 : Int32)) dX9_brief_36 (by decide) ?_
  exact K
theorem bX9_brief_38 {I : Nat → Nat → Int32} {L : Nat → Int64} {Q : Option Value → (Nat → Nat → Int32) → (Nat → Int64) → Prop} {s0 : Int32}  (K : Q (some (.int s0)) I L) : XS mX9_brief 38 [] [.int s0] I L Q := by
  exact xs_iret dX9_brief_38 rfl rfl K
theorem bX9_protect_0 {I : Nat → Nat → Int32} {L : Nat → Int64} {Q : Option Value → (Nat → Nat → Int32) → (Nat → Int64) → Prop} {v1 : Int32}  (K1 : (v1 = 0) → XS mX9_protect 12 [(0, .ref 0), (1, .int v1)] [] I L Q) (K2 : (¬ v1 = 0) → XS mX9_protect 4 [(0, .ref 0), (1, .int v1)] [] I L Q) : XS mX9_protect 0 [(0, .ref 0), (1, .int v1)] [] I L Q := by
  refine x_iload_n 1 dX9_protect_0 rfl rfl ?_
  exact x_if_eq 12 dX9_protect_1 (by decide) (fun h => K1 h) (fun h => K2 h)
theorem bX9_protect_4 {I : Nat → Nat → Int32} {L : Nat → Int64} {Q : Option Value → (Nat → Nat → Int32) → (Nat → Int64) → Prop} {v1 : Int32}  (K1 : (v1 = (1 : Int32)) → XS mX9_protect 12 [(0, .ref 0), (1, .int v1)] [] I L Q) (K2 : (¬ v1 = (1 : Int32)) → XS mX9_protect 9 [] [] I L Q) : XS mX9_protect 4 [(0, .ref 0), (1, .int v1)] [] I L Q := by
  refine x_iload_n 1 dX9_protect_4 rfl rfl ?_
  refine x_iconst (v := (1 : Int32)) dX9_protect_5 (by decide) ?_
  exact x_icmp_eq 12 dX9_protect_6 (by decide) (fun h => K1 h) (fun h => x_sub [] rfl (K2 h))
theorem bX9_protect_9 {I : Nat → Nat → Int32} {L : Nat → Int64} {Q : Option Value → (Nat → Nat → Int32) → (Nat → Int64) → Prop}   (K : Q (some (.int (-3 : Int32))) I L) : XS mX9_protect 9 [] [] I L Q := by
  refine x_bipush (v := (-3 : Int32)) dX9_protect_9 (by decide) ?_
  exact xs_iret dX9_protect_11 rfl rfl K
theorem bX9_protect_12 {I : Nat → Nat → Int32} {L : Nat → Int64} {Q : Option Value → (Nat → Nat → Int32) → (Nat → Int64) → Prop} {v1 : Int32}  (K : Q (some (.int (I 2757 0))) (x_up I 2757 0 v1) L) : XS mX9_protect 12 [(0, .ref 0), (1, .int v1)] [] I L Q := by
  refine x_aload_n 0 dX9_protect_12 rfl rfl ?_
  refine xs_getr dX9_protect_13 fl_X9_76 sh_0 rfl rf_8 ?_
  refine xs_geti 2757 dX9_protect_16 fl_X9_126 sh_43 rfl rfl ?_
  refine x_istore_n [(0, .ref 0), (1, .int v1), (2, .int (I 2757 0))] dX9_protect_19 rfl (Nat.le_of_ble_eq_true rfl) rfl ?_
  refine x_aload_n 0 dX9_protect_20 rfl rfl ?_
  refine xs_getr dX9_protect_21 fl_X9_76 sh_0 rfl rf_8 ?_
  refine x_iload_n 1 dX9_protect_24 rfl rfl ?_
  refine xs_puti 2757 dX9_protect_25 fl_X9_126 sh_43 rfl rfl rfl ?_
  refine x_iload_n 2 dX9_protect_28 rfl rfl ?_
  exact xs_iret dX9_protect_29 rfl rfl K
theorem bX9_send_0 {I : Nat → Nat → Int32} {L : Nat → Int64} {Q : Option Value → (Nat → Nat → Int32) → (Nat → Int64) → Prop} {v1 : Int32}  (K : XS mX2_hasNode 0 [(0, .ref 1), (1, .int v1)] [] I L (fun r I' L' => XS mX9_send 8 [(0, .ref 0), (1, .int v1)] (r.toList ++ []) I' L' Q)) : XS mX9_send 0 [(0, .ref 0), (1, .int v1)] [] I L Q := by
  refine x_aload_n 0 dX9_send_0 rfl rfl ?_
  refine xs_getr dX9_send_1 fl_X9_10 sh_0 rfl rf_0 ?_
  refine x_iload_n 1 dX9_send_4 rfl rfl ?_
  exact xs_callV mX2_hasNode [.int v1] [] 1 2 1 _ rfl dX9_send_5 ml_X9_169 qX2_hasNode rfl ⟨Nat.le_of_ble_eq_true rfl, Nat.le_of_ble_eq_true rfl⟩ ⟨rfl, rfl⟩ (Nat.le_of_ble_eq_true rfl) sh_1 (by decide) rfl (Nat.le_of_ble_eq_true rfl) (K)
theorem bX9_send_8 {I : Nat → Nat → Int32} {L : Nat → Int64} {Q : Option Value → (Nat → Nat → Int32) → (Nat → Int64) → Prop} {v1 : Int32} {s0 : Int32}  (K1 : (¬ s0 = 0) → XS mX9_send 14 [(0, .ref 0), (1, .int v1)] [] I L Q) (K2 : (s0 = 0) → XS mX9_send 11 [] [] I L Q) : XS mX9_send 8 [(0, .ref 0), (1, .int v1)] [.int s0] I L Q := by
  exact x_if_ne 14 dX9_send_8 (by decide) (fun h => K1 h) (fun h => x_sub [] rfl (K2 h))
theorem bX9_send_11 {I : Nat → Nat → Int32} {L : Nat → Int64} {Q : Option Value → (Nat → Nat → Int32) → (Nat → Int64) → Prop}   (K : Q (some (.int (-2 : Int32))) I L) : XS mX9_send 11 [] [] I L Q := by
  refine x_bipush (v := (-2 : Int32)) dX9_send_11 (by decide) ?_
  exact xs_iret dX9_send_13 rfl rfl K
theorem bX9_send_14 {I : Nat → Nat → Int32} {L : Nat → Int64} {Q : Option Value → (Nat → Nat → Int32) → (Nat → Int64) → Prop} {v1 : Int32}  (K : XS mX1_start 0 [(0, .ref 43), (1, .int v1), (2, .ref 26)] [] I L (fun r I' L' => XS mX9_send 26 [(0, .ref 0), (1, .int v1)] (r.toList ++ []) I' L' Q)) : XS mX9_send 14 [(0, .ref 0), (1, .int v1)] [] I L Q := by
  refine x_aload_n 0 dX9_send_14 rfl rfl ?_
  refine xs_getr dX9_send_15 fl_X9_76 sh_0 rfl rf_8 ?_
  refine x_iload_n 1 dX9_send_18 rfl rfl ?_
  refine x_aload_n 0 dX9_send_19 rfl rfl ?_
  refine xs_getr dX9_send_20 fl_X9_53 sh_0 rfl rf_5 ?_
  exact xs_callV mX1_start [.int v1, .ref 26] [] 43 1 2 _ rfl dX9_send_23 ml_X9_256 qX1_start rfl ⟨Nat.le_of_ble_eq_true rfl, Nat.le_of_ble_eq_true rfl⟩ ⟨rfl, rfl⟩ (Nat.le_of_ble_eq_true rfl) sh_43 (by decide) rfl (Nat.le_of_ble_eq_true rfl) (K)
theorem bX9_send_26 {I : Nat → Nat → Int32} {L : Nat → Int64} {Q : Option Value → (Nat → Nat → Int32) → (Nat → Int64) → Prop} {v1 : Int32}  (K : XS mX1_carry 0 [(0, .ref 43), (1, .int v1)] [] I L (fun r I' L' => XS mX9_send 34 [(0, .ref 0)] (r.toList ++ []) I' L' Q)) : XS mX9_send 26 [(0, .ref 0), (1, .int v1)] [] I L Q := by
  refine x_aload_n 0 dX9_send_26 rfl rfl ?_
  refine xs_getr dX9_send_27 fl_X9_76 sh_0 rfl rf_8 ?_
  refine x_iload_n 1 dX9_send_30 rfl rfl ?_
  refine x_sub [0] rfl ?_
  exact xs_callV mX1_carry [.int v1] [] 43 1 1 _ rfl dX9_send_31 ml_X9_260 qX1_carry rfl ⟨Nat.le_of_ble_eq_true rfl, Nat.le_of_ble_eq_true rfl⟩ ⟨rfl, rfl⟩ (Nat.le_of_ble_eq_true rfl) sh_43 (by decide) rfl (Nat.le_of_ble_eq_true rfl) (K)
theorem bX9_send_34 {I : Nat → Nat → Int32} {L : Nat → Int64} {Q : Option Value → (Nat → Nat → Int32) → (Nat → Int64) → Prop} {s0 : Int32}  (K : XS mX1_noteEnd 0 [(0, .ref 43), (1, .int s0)] [] I L (fun r I' L' => XS mX9_send 43 [(2, .int s0)] (r.toList ++ []) I' L' Q)) : XS mX9_send 34 [(0, .ref 0)] [.int s0] I L Q := by
  refine x_istore_n [(0, .ref 0), (2, .int s0)] dX9_send_34 rfl (Nat.le_of_ble_eq_true rfl) rfl ?_
  refine x_aload_n 0 dX9_send_35 rfl rfl ?_
  refine xs_getr dX9_send_36 fl_X9_76 sh_0 rfl rf_8 ?_
  refine x_iload_n 1 dX9_send_39 rfl rfl ?_
  refine x_sub [1] rfl ?_
  exact xs_callV mX1_noteEnd [.int s0] [] 43 1 1 _ rfl dX9_send_40 ml_X9_263 qX1_noteEnd rfl ⟨Nat.le_of_ble_eq_true rfl, Nat.le_of_ble_eq_true rfl⟩ ⟨rfl, rfl⟩ (Nat.le_of_ble_eq_true rfl) sh_43 (by decide) rfl (Nat.le_of_ble_eq_true rfl) (K)
theorem bX9_send_43 {I : Nat → Nat → Int32} {L : Nat → Int64} {Q : Option Value → (Nat → Nat → Int32) → (Nat → Int64) → Prop} {v2 : Int32}  (K : Q (some (.int v2)) I L) : XS mX9_send 43 [(2, .int v2)] [] I L Q := by
  refine x_iload_n 0 dX9_send_43 rfl rfl ?_
  exact xs_iret dX9_send_44 rfl rfl K
theorem bX9_way_0 {I : Nat → Nat → Int32} {L : Nat → Int64} {Q : Option Value → (Nat → Nat → Int32) → (Nat → Int64) → Prop} {v1 : Int32}  (K1 : ((-1 : Int32) ≤ v1) → XS mX9_way 8 [(0, .ref 0), (1, .int v1)] [] I L Q) (K2 : (¬ (-1 : Int32) ≤ v1) → XS mX9_way 5 [] [] I L Q) : XS mX9_way 0 [(0, .ref 0), (1, .int v1)] [] I L Q := by
  refine x_iload_n 1 dX9_way_0 rfl rfl ?_
  refine x_iconst (v := (-1 : Int32)) dX9_way_1 (by decide) ?_
  exact x_icmp_ge 8 dX9_way_2 (by decide) (fun h => K1 h) (fun h => x_sub [] rfl (K2 h))
theorem bX9_way_5 {I : Nat → Nat → Int32} {L : Nat → Int64} {Q : Option Value → (Nat → Nat → Int32) → (Nat → Int64) → Prop}   (K : Q (some (.int (-3 : Int32))) I L) : XS mX9_way 5 [] [] I L Q := by
  refine x_bipush (v := (-3 : Int32)) dX9_way_5 (by decide) ?_
  exact xs_iret dX9_way_7 rfl rfl K
theorem bX9_way_8 {I : Nat → Nat → Int32} {L : Nat → Int64} {Q : Option Value → (Nat → Nat → Int32) → (Nat → Int64) → Prop} {v1 : Int32}  (K1 : (¬ (I 2758 0) = 0) → XS mX9_way 20 [(0, .ref 0), (1, .int v1)] [] I L Q) (K2 : ((I 2758 0) = 0) → XS mX9_way 18 [] [] I L Q) : XS mX9_way 8 [(0, .ref 0), (1, .int v1)] [] I L Q := by
  refine x_aload_n 0 dX9_way_8 rfl rfl ?_
  refine xs_getr dX9_way_9 fl_X9_76 sh_0 rfl rf_8 ?_
  refine xs_geti 2758 dX9_way_12 fl_X9_266 sh_43 rfl rfl ?_
  exact x_if_ne 20 dX9_way_15 (by decide) (fun h => K1 h) (fun h => x_sub [] rfl (K2 h))
theorem bX9_way_18 {I : Nat → Nat → Int32} {L : Nat → Int64} {Q : Option Value → (Nat → Nat → Int32) → (Nat → Int64) → Prop}   (K : Q (some (.int (-1 : Int32))) I L) : XS mX9_way 18 [] [] I L Q := by
  refine x_iconst (v := (-1 : Int32)) dX9_way_18 (by decide) ?_
  exact xs_iret dX9_way_19 rfl rfl K
theorem bX9_way_20 {I : Nat → Nat → Int32} {L : Nat → Int64} {Q : Option Value → (Nat → Nat → Int32) → (Nat → Int64) → Prop} {v1 : Int32}  (K1 : (¬ v1 = (-1 : Int32)) → XS mX9_way 35 [(0, .ref 0), (1, .int v1)] [] I L Q) (K2 : (v1 = (-1 : Int32)) → XS mX9_way 25 [(0, .ref 0)] [] I L Q) : XS mX9_way 20 [(0, .ref 0), (1, .int v1)] [] I L Q := by
  refine x_iload_n 1 dX9_way_20 rfl rfl ?_
  refine x_iconst (v := (-1 : Int32)) dX9_way_21 (by decide) ?_
  exact x_icmp_ne 35 dX9_way_22 (by decide) (fun h => K1 h) (fun h => x_sub [0] rfl (K2 h))
theorem bX9_way_25 {I : Nat → Nat → Int32} {L : Nat → Int64} {Q : Option Value → (Nat → Nat → Int32) → (Nat → Int64) → Prop}   (K : XS mX1_hops 0 [(0, .ref 43)] [] I L (fun r I' L' => XS mX9_way 32 [] (r.toList ++ []) I' L' Q)) : XS mX9_way 25 [(0, .ref 0)] [] I L Q := by
  refine x_aload_n 0 dX9_way_25 rfl rfl ?_
  refine xs_getr dX9_way_26 fl_X9_76 sh_0 rfl rf_8 ?_
  refine x_sub [] rfl ?_
  exact xs_callV mX1_hops [] [] 43 1 0 _ rfl dX9_way_29 ml_X9_269 qX1_hops rfl ⟨Nat.le_of_ble_eq_true rfl, Nat.le_of_ble_eq_true rfl⟩ ⟨rfl, rfl⟩ (Nat.le_of_ble_eq_true rfl) sh_43 (by decide) rfl (Nat.le_of_ble_eq_true rfl) (K)
theorem bX9_way_32 {I : Nat → Nat → Int32} {L : Nat → Int64} {Q : Option Value → (Nat → Nat → Int32) → (Nat → Int64) → Prop} {s0 : Int32}  (K : XS mX9_way 46 [] [.int s0] I L Q) : XS mX9_way 32 [] [.int s0] I L Q := by
  exact x_goto 46 dX9_way_32 (by decide) (K)
theorem bX9_way_35 {I : Nat → Nat → Int32} {L : Nat → Int64} {Q : Option Value → (Nat → Nat → Int32) → (Nat → Int64) → Prop} {v1 : Int32}  (K : XS mX6_told 0 [(0, .ref 47), (1, .int v1)] [] I L (fun r I' L' => XS mX9_way 46 [] (r.toList ++ []) I' L' Q)) : XS mX9_way 35 [(0, .ref 0), (1, .int v1)] [] I L Q := by
  refine x_aload_n 0 dX9_way_35 rfl rfl ?_
  refine xs_getr dX9_way_36 fl_X9_76 sh_0 rfl rf_8 ?_
  refine xs_getr dX9_way_39 fl_X9_272 sh_43 rfl rf_2756 ?_
  refine x_iload_n 1 dX9_way_42 rfl rfl ?_
  refine x_sub [] rfl ?_
  exact xs_callV mX6_told [.int v1] [] 47 6 1 _ rfl dX9_way_43 ml_X9_217 qX6_told rfl ⟨Nat.le_of_ble_eq_true rfl, Nat.le_of_ble_eq_true rfl⟩ ⟨rfl, rfl⟩ (Nat.le_of_ble_eq_true rfl) sh_47 (by decide) rfl (Nat.le_of_ble_eq_true rfl) (K)
theorem bX9_way_46 {I : Nat → Nat → Int32} {L : Nat → Int64} {Q : Option Value → (Nat → Nat → Int32) → (Nat → Int64) → Prop} {s0 : Int32}  (K : Q (some (.int s0)) I L) : XS mX9_way 46 [] [.int s0] I L Q := by
  exact xs_iret dX9_way_46 rfl rfl K
theorem bX9_count_0 {I : Nat → Nat → Int32} {L : Nat → Int64} {Q : Option Value → (Nat → Nat → Int32) → (Nat → Int64) → Prop} {v1 : Int32}  (Kd : (v1.toInt < 0 ∨ 12 < v1.toInt) → XS mX9_count 138 [(0, .ref 0), (1, .int v1)] [] I L Q) (K0 : (v1 = 0) → XS mX9_count 68 [(0, .ref 0)] [] I L Q) (K1 : (v1 = 1) → XS mX9_count 76 [(0, .ref 0)] [] I L Q) (K2 : (v1 = 2) → XS mX9_count 84 [(0, .ref 0)] [] I L Q) (K3 : (v1 = 3) → XS mX9_count 95 [(0, .ref 0)] [] I L Q) (K4 : (v1 = 4) → XS mX9_count 106 [(0, .ref 0)] [] I L Q) (K5 : (v1 = 5) → XS mX9_count 114 [(0, .ref 0)] [] I L Q) (K6 : (v1 = 6) → XS mX9_count 138 [(0, .ref 0), (1, .int v1)] [] I L Q) (K7 : (v1 = 7) → XS mX9_count 138 [(0, .ref 0), (1, .int v1)] [] I L Q) (K8 : (v1 = 8) → XS mX9_count 138 [(0, .ref 0), (1, .int v1)] [] I L Q) (K9 : (v1 = 9) → XS mX9_count 138 [(0, .ref 0), (1, .int v1)] [] I L Q) (K10 : (v1 = 10) → XS mX9_count 138 [(0, .ref 0), (1, .int v1)] [] I L Q) (K11 : (v1 = 11) → XS mX9_count 122 [(0, .ref 0)] [] I L Q) (K12 : (v1 = 12) → XS mX9_count 130 [(0, .ref 0)] [] I L Q) : XS mX9_count 0 [(0, .ref 0), (1, .int v1)] [] I L Q := by
  refine x_iload_n 1 dX9_count_0 rfl rfl ?_
  by_cases g1 : v1.toInt < 0
  · exact x_swOut 138 dX9_count_1 (Or.inl g1) (by decide) (Kd (Or.inl g1))
  by_cases g2 : 12 < v1.toInt
  · exact x_swOut 138 dX9_count_1 (Or.inr g2) (by decide) (Kd (Or.inr g2))
  obtain ⟨k, hk, e⟩ := x_swcase (x := v1) 0 12 g1 (by omega)
  rcases (show k = 0 ∨ k = 1 ∨ k = 2 ∨ k = 3 ∨ k = 4 ∨ k = 5 ∨ k = 6 ∨ k = 7 ∨ k = 8 ∨ k = 9 ∨ k = 10 ∨ k = 11 ∨ k = 12 by omega) with rfl | rfl | rfl | rfl | rfl | rfl | rfl | rfl | rfl | rfl | rfl | rfl | rfl
  · exact x_swIn 68 dX9_count_1 g1 g2 (by rw [e]; rfl) (by decide) (x_sub [0] rfl (K0 (x_toI 0 e rfl)))
  · exact x_swIn 76 dX9_count_1 g1 g2 (by rw [e]; rfl) (by decide) (x_sub [0] rfl (K1 (x_toI 1 e rfl)))
  · exact x_swIn 84 dX9_count_1 g1 g2 (by rw [e]; rfl) (by decide) (x_sub [0] rfl (K2 (x_toI 2 e rfl)))
  · exact x_swIn 95 dX9_count_1 g1 g2 (by rw [e]; rfl) (by decide) (x_sub [0] rfl (K3 (x_toI 3 e rfl)))
  · exact x_swIn 106 dX9_count_1 g1 g2 (by rw [e]; rfl) (by decide) (x_sub [0] rfl (K4 (x_toI 4 e rfl)))
  · exact x_swIn 114 dX9_count_1 g1 g2 (by rw [e]; rfl) (by decide) (x_sub [0] rfl (K5 (x_toI 5 e rfl)))
  · exact x_swIn 138 dX9_count_1 g1 g2 (by rw [e]; rfl) (by decide) (K6 (x_toI 6 e rfl))
  · exact x_swIn 138 dX9_count_1 g1 g2 (by rw [e]; rfl) (by decide) (K7 (x_toI 7 e rfl))
  · exact x_swIn 138 dX9_count_1 g1 g2 (by rw [e]; rfl) (by decide) (K8 (x_toI 8 e rfl))
  · exact x_swIn 138 dX9_count_1 g1 g2 (by rw [e]; rfl) (by decide) (K9 (x_toI 9 e rfl))
  · exact x_swIn 138 dX9_count_1 g1 g2 (by rw [e]; rfl) (by decide) (K10 (x_toI 10 e rfl))
  · exact x_swIn 122 dX9_count_1 g1 g2 (by rw [e]; rfl) (by decide) (x_sub [0] rfl (K11 (x_toI 11 e rfl)))
  · exact x_swIn 130 dX9_count_1 g1 g2 (by rw [e]; rfl) (by decide) (x_sub [0] rfl (K12 (x_toI 12 e rfl)))
theorem bX9_count_68 {I : Nat → Nat → Int32} {L : Nat → Int64} {Q : Option Value → (Nat → Nat → Int32) → (Nat → Int64) → Prop}   (K : Q (some (.int (I 64 0))) I L) : XS mX9_count 68 [(0, .ref 0)] [] I L Q := by
  refine x_aload_n 0 dX9_count_68 rfl rfl ?_
  refine xs_getr dX9_count_69 fl_X9_10 sh_0 rfl rf_0 ?_
  refine xs_geti 64 dX9_count_72 fl_X9_191 sh_1 rfl rfl ?_
  exact xs_iret dX9_count_75 rfl rfl K
theorem bX9_count_76 {I : Nat → Nat → Int32} {L : Nat → Int64} {Q : Option Value → (Nat → Nat → Int32) → (Nat → Int64) → Prop}   (K : Q (some (.int (I 65 0))) I L) : XS mX9_count 76 [(0, .ref 0)] [] I L Q := by
  refine x_aload_n 0 dX9_count_76 rfl rfl ?_
  refine xs_getr dX9_count_77 fl_X9_10 sh_0 rfl rf_0 ?_
  refine xs_geti 65 dX9_count_80 fl_X9_275 sh_1 rfl rfl ?_
  exact xs_iret dX9_count_83 rfl rfl K
theorem bX9_count_84 {I : Nat → Nat → Int32} {L : Nat → Int64} {Q : Option Value → (Nat → Nat → Int32) → (Nat → Int64) → Prop}   (K : XS mJ6_bitCount_0f7a4 0 [(0, .int (I 66 0))] [] I L (fun r I' L' => XS mX9_count 94 [] (r.toList ++ []) I' L' Q)) : XS mX9_count 84 [(0, .ref 0)] [] I L Q := by
  refine x_aload_n 0 dX9_count_84 rfl rfl ?_
  refine xs_getr dX9_count_85 fl_X9_10 sh_0 rfl rf_0 ?_
  refine xs_geti 66 dX9_count_88 fl_X9_158 sh_1 rfl rfl ?_
  refine x_sub [] rfl ?_
  exact xs_callS mJ6_bitCount_0f7a4 [.int (I 66 0)] [] 1 _ rfl dX9_count_91 ml_X9_161 qJ6_bitCount_0f7a4 rfl ⟨Nat.le_of_ble_eq_true rfl, Nat.le_of_ble_eq_true rfl⟩ ⟨rfl, rfl⟩ (Nat.le_of_ble_eq_true rfl) (Nat.le_of_ble_eq_true rfl) (K)
theorem bX9_count_94 {I : Nat → Nat → Int32} {L : Nat → Int64} {Q : Option Value → (Nat → Nat → Int32) → (Nat → Int64) → Prop} {s0 : Int32}  (K : Q (some (.int s0)) I L) : XS mX9_count 94 [] [.int s0] I L Q := by
  exact xs_iret dX9_count_94 rfl rfl K
theorem bX9_count_95 {I : Nat → Nat → Int32} {L : Nat → Int64} {Q : Option Value → (Nat → Nat → Int32) → (Nat → Int64) → Prop}   (K : XS mX2_behind 0 [(0, .ref 1)] [] I L (fun r I' L' => XS mX9_count 102 [] (r.toList ++ []) I' L' Q)) : XS mX9_count 95 [(0, .ref 0)] [] I L Q := by
  refine x_aload_n 0 dX9_count_95 rfl rfl ?_
  refine xs_getr dX9_count_96 fl_X9_10 sh_0 rfl rf_0 ?_
  refine x_sub [] rfl ?_
  exact xs_callV mX2_behind [] [] 1 2 0 _ rfl dX9_count_99 ml_X9_278 qX2_behind rfl ⟨Nat.le_of_ble_eq_true rfl, Nat.le_of_ble_eq_true rfl⟩ ⟨rfl, rfl⟩ (Nat.le_of_ble_eq_true rfl) sh_1 (by decide) rfl (Nat.le_of_ble_eq_true rfl) (K)
theorem bX9_count_102 {I : Nat → Nat → Int32} {L : Nat → Int64} {Q : Option Value → (Nat → Nat → Int32) → (Nat → Int64) → Prop} {s0 : Int32}  (K : XS mJ6_bitCount_0f7a4 0 [(0, .int s0)] [] I L (fun r I' L' => XS mX9_count 105 [] (r.toList ++ []) I' L' Q)) : XS mX9_count 102 [] [.int s0] I L Q := by
  exact xs_callS mJ6_bitCount_0f7a4 [.int s0] [] 1 _ rfl dX9_count_102 ml_X9_161 qJ6_bitCount_0f7a4 rfl ⟨Nat.le_of_ble_eq_true rfl, Nat.le_of_ble_eq_true rfl⟩ ⟨rfl, rfl⟩ (Nat.le_of_ble_eq_true rfl) (Nat.le_of_ble_eq_true rfl) (K)
theorem bX9_count_105 {I : Nat → Nat → Int32} {L : Nat → Int64} {Q : Option Value → (Nat → Nat → Int32) → (Nat → Int64) → Prop} {s0 : Int32}  (K : Q (some (.int s0)) I L) : XS mX9_count 105 [] [.int s0] I L Q := by
  exact xs_iret dX9_count_105 rfl rfl K
theorem bX9_count_106 {I : Nat → Nat → Int32} {L : Nat → Int64} {Q : Option Value → (Nat → Nat → Int32) → (Nat → Int64) → Prop}   (K : Q (some (.int (I 1666 0))) I L) : XS mX9_count 106 [(0, .ref 0)] [] I L Q := by
  refine x_aload_n 0 dX9_count_106 rfl rfl ?_
  refine xs_getr dX9_count_107 fl_X9_53 sh_0 rfl rf_5 ?_
  refine xs_geti 1666 dX9_count_110 fl_X9_124 sh_26 rfl rfl ?_
  exact xs_iret dX9_count_113 rfl rfl K
theorem bX9_count_114 {I : Nat → Nat → Int32} {L : Nat → Int64} {Q : Option Value → (Nat → Nat → Int32) → (Nat → Int64) → Prop}   (K : Q (some (.int (I 1857 0))) I L) : XS mX9_count 114 [(0, .ref 0)] [] I L Q := by
  refine x_aload_n 0 dX9_count_114 rfl rfl ?_
  refine xs_getr dX9_count_115 fl_X9_60 sh_0 rfl rf_6 ?_
  refine xs_geti 1857 dX9_count_118 fl_X9_125 sh_29 rfl rfl ?_
  exact xs_iret dX9_count_121 rfl rfl K
theorem bX9_count_122 {I : Nat → Nat → Int32} {L : Nat → Int64} {Q : Option Value → (Nat → Nat → Int32) → (Nat → Int64) → Prop}   (K : Q (some (.int (I 710 0))) I L) : XS mX9_count 122 [(0, .ref 0)] [] I L Q := by
  refine x_aload_n 0 dX9_count_122 rfl rfl ?_
  refine xs_getr dX9_count_123 fl_X9_28 sh_0 rfl rf_2 ?_
  refine xs_geti 710 dX9_count_126 fl_X9_97 sh_11 rfl rfl ?_
  exact xs_iret dX9_count_129 rfl rfl K
theorem bX9_count_130 {I : Nat → Nat → Int32} {L : Nat → Int64} {Q : Option Value → (Nat → Nat → Int32) → (Nat → Int64) → Prop}   (K : Q (some (.int (I 514 0))) I L) : XS mX9_count 130 [(0, .ref 0)] [] I L Q := by
  refine x_aload_n 0 dX9_count_130 rfl rfl ?_
  refine xs_getr dX9_count_131 fl_X9_21 sh_0 rfl rf_1 ?_
  refine xs_geti 514 dX9_count_134 fl_X9_80 sh_8 rfl rfl ?_
  exact xs_iret dX9_count_137 rfl rfl K
theorem bX9_count_138 {I : Nat → Nat → Int32} {L : Nat → Int64} {Q : Option Value → (Nat → Nat → Int32) → (Nat → Int64) → Prop} {v1 : Int32}  (K : XS mX1_tally 0 [(0, .ref 43), (1, .int v1)] [] I L (fun r I' L' => XS mX9_count 146 [] (r.toList ++ []) I' L' Q)) : XS mX9_count 138 [(0, .ref 0), (1, .int v1)] [] I L Q := by
  refine x_aload_n 0 dX9_count_138 rfl rfl ?_
  refine xs_getr dX9_count_139 fl_X9_76 sh_0 rfl rf_8 ?_
  refine x_iload_n 1 dX9_count_142 rfl rfl ?_
  refine x_sub [] rfl ?_
  exact xs_callV mX1_tally [.int v1] [] 43 1 1 _ rfl dX9_count_143 ml_X9_281 qX1_tally rfl ⟨Nat.le_of_ble_eq_true rfl, Nat.le_of_ble_eq_true rfl⟩ ⟨rfl, rfl⟩ (Nat.le_of_ble_eq_true rfl) sh_43 (by decide) rfl (Nat.le_of_ble_eq_true rfl) (K)
theorem bX9_count_146 {I : Nat → Nat → Int32} {L : Nat → Int64} {Q : Option Value → (Nat → Nat → Int32) → (Nat → Int64) → Prop} {s0 : Int32}  (K : Q (some (.int s0)) I L) : XS mX9_count 146 [] [.int s0] I L Q := by
  exact xs_iret dX9_count_146 rfl rfl K
