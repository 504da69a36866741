/-! ===== blocks ===== -/
theorem bX10_fail_0 {I : Nat → Nat → Int32} {L : Nat → Int64} {Q : Option Value → (Nat → Nat → Int32) → (Nat → Int64) → Prop} {v1 : Int32}  (K : XS mX10_becomesUp 0 [(0, .ref 49), (1, .int v1), (2, .int (0 : Int32))] [] I L (fun r I' L' => XS mX10_fail 6 [] (r.toList ++ []) I' L' Q)) : XS mX10_fail 0 [(0, .ref 49), (1, .int v1)] [] I L Q := by
  refine x_aload_n 0 dX10_fail_0 rfl rfl ?_
  refine x_iload_n 1 dX10_fail_1 rfl rfl ?_
  refine x_iconst (v := (0 : Int32)) dX10_fail_2 (by decide) ?_
  refine x_sub [] rfl ?_
  exact xs_callV mX10_becomesUp [.int v1, .int (0 : Int32)] [] 49 10 2 _ rfl dX10_fail_3 ml_X10_231 qX10_becomesUp rfl ⟨Nat.le_of_ble_eq_true rfl, Nat.le_of_ble_eq_true rfl⟩ ⟨rfl, rfl⟩ (Nat.le_of_ble_eq_true rfl) sh_49 (by decide) rfl (Nat.le_of_ble_eq_true rfl) (K)
theorem bX10_fail_6 {I : Nat → Nat → Int32} {L : Nat → Int64} {Q : Option Value → (Nat → Nat → Int32) → (Nat → Int64) → Prop} {s0 : Int32}  (K : Q (some (.int s0)) I L) : XS mX10_fail 6 [] [.int s0] I L Q := by
  exact xs_iret dX10_fail_6 rfl rfl K
theorem bX10_heal_0 {I : Nat → Nat → Int32} {L : Nat → Int64} {Q : Option Value → (Nat → Nat → Int32) → (Nat → Int64) → Prop} {v1 : Int32}  (K : XS mX10_becomesUp 0 [(0, .ref 49), (1, .int v1), (2, .int (1 : Int32))] [] I L (fun r I' L' => XS mX10_heal 6 [] (r.toList ++ []) I' L' Q)) : XS mX10_heal 0 [(0, .ref 49), (1, .int v1)] [] I L Q := by
  refine x_aload_n 0 dX10_heal_0 rfl rfl ?_
  refine x_iload_n 1 dX10_heal_1 rfl rfl ?_
  refine x_iconst (v := (1 : Int32)) dX10_heal_2 (by decide) ?_
  refine x_sub [] rfl ?_
  exact xs_callV mX10_becomesUp [.int v1, .int (1 : Int32)] [] 49 10 2 _ rfl dX10_heal_3 ml_X10_231 qX10_becomesUp rfl ⟨Nat.le_of_ble_eq_true rfl, Nat.le_of_ble_eq_true rfl⟩ ⟨rfl, rfl⟩ (Nat.le_of_ble_eq_true rfl) sh_49 (by decide) rfl (Nat.le_of_ble_eq_true rfl) (K)
theorem bX10_heal_6 {I : Nat → Nat → Int32} {L : Nat → Int64} {Q : Option Value → (Nat → Nat → Int32) → (Nat → Int64) → Prop} {s0 : Int32}  (K : Q (some (.int s0)) I L) : XS mX10_heal 6 [] [.int s0] I L Q := by
  exact xs_iret dX10_heal_6 rfl rfl K
theorem bX10_tune_0 {I : Nat → Nat → Int32} {L : Nat → Int64} {Q : Option Value → (Nat → Nat → Int32) → (Nat → Int64) → Prop} {v1 : Int32} {v2 : Int32} {v3 : Int32}  (K : XS mX10_isLink 0 [(0, .ref 49), (1, .int v1)] [] I L (fun r I' L' => XS mX10_tune 5 [(0, .ref 49), (1, .int v1), (2, .int v2), (3, .int v3)] (r.toList ++ []) I' L' Q)) : XS mX10_tune 0 [(0, .ref 49), (1, .int v1), (2, .int v2), (3, .int v3)] [] I L Q := by
  refine x_aload_n 0 dX10_tune_0 rfl rfl ?_
  refine x_iload_n 1 dX10_tune_1 rfl rfl ?_
  exact xs_callV mX10_isLink [.int v1] [] 49 10 1 _ rfl dX10_tune_2 ml_X10_221 qX10_isLink rfl ⟨Nat.le_of_ble_eq_true rfl, Nat.le_of_ble_eq_true rfl⟩ ⟨rfl, rfl⟩ (Nat.le_of_ble_eq_true rfl) sh_49 (by decide) rfl (Nat.le_of_ble_eq_true rfl) (K)
theorem bX10_tune_5 {I : Nat → Nat → Int32} {L : Nat → Int64} {Q : Option Value → (Nat → Nat → Int32) → (Nat → Int64) → Prop} {v1 : Int32} {v2 : Int32} {v3 : Int32} {s0 : Int32}  (K1 : (¬ s0 = 0) → XS mX10_tune 11 [(0, .ref 49), (1, .int v1), (2, .int v2), (3, .int v3)] [] I L Q) (K2 : (s0 = 0) → XS mX10_tune 8 [] [] I L Q) : XS mX10_tune 5 [(0, .ref 49), (1, .int v1), (2, .int v2), (3, .int v3)] [.int s0] I L Q := by
  exact x_if_ne 11 dX10_tune_5 (by decide) (fun h => K1 h) (fun h => x_sub [] rfl (K2 h))
theorem bX10_tune_8 {I : Nat → Nat → Int32} {L : Nat → Int64} {Q : Option Value → (Nat → Nat → Int32) → (Nat → Int64) → Prop}   (K : Q (some (.int (-2 : Int32))) I L) : XS mX10_tune 8 [] [] I L Q := by
  refine x_bipush (v := (-2 : Int32)) dX10_tune_8 (by decide) ?_
  exact xs_iret dX10_tune_10 rfl rfl K
theorem bX10_tune_11 {I : Nat → Nat → Int32} {L : Nat → Int64} {Q : Option Value → (Nat → Nat → Int32) → (Nat → Int64) → Prop} {v1 : Int32} {v2 : Int32} {v3 : Int32}  (K : XS mX10_in 0 [(0, .int v2), (1, .int (1 : Int32)), (2, .int (9 : Int32))] [] I L (fun r I' L' => XS mX10_tune 18 [(0, .ref 49), (1, .int v1), (2, .int v2), (3, .int v3)] (r.toList ++ []) I' L' Q)) : XS mX10_tune 11 [(0, .ref 49), (1, .int v1), (2, .int v2), (3, .int v3)] [] I L Q := by
  refine x_iload_n 2 dX10_tune_11 rfl rfl ?_
  refine x_iconst (v := (1 : Int32)) dX10_tune_12 (by decide) ?_
  refine x_bipush (v := (9 : Int32)) dX10_tune_13 (by decide) ?_
  exact xs_callS mX10_in [.int v2, .int (1 : Int32), .int (9 : Int32)] [] 3 _ rfl dX10_tune_15 ml_X10_86 qX10_in rfl ⟨Nat.le_of_ble_eq_true rfl, Nat.le_of_ble_eq_true rfl⟩ ⟨rfl, rfl⟩ (Nat.le_of_ble_eq_true rfl) (Nat.le_of_ble_eq_true rfl) (K)
theorem bX10_tune_18 {I : Nat → Nat → Int32} {L : Nat → Int64} {Q : Option Value → (Nat → Nat → Int32) → (Nat → Int64) → Prop} {v1 : Int32} {v2 : Int32} {v3 : Int32} {s0 : Int32}  (K1 : (s0 = 0) → XS mX10_tune 31 [] [] I L Q) (K2 : (¬ s0 = 0) → XS mX10_tune 21 [(0, .ref 49), (1, .int v1), (2, .int v2), (3, .int v3)] [] I L Q) : XS mX10_tune 18 [(0, .ref 49), (1, .int v1), (2, .int v2), (3, .int v3)] [.int s0] I L Q := by
  exact x_if_eq 31 dX10_tune_18 (by decide) (fun h => x_sub [] rfl (K1 h)) (fun h => K2 h)
theorem bX10_tune_21 {I : Nat → Nat → Int32} {L : Nat → Int64} {Q : Option Value → (Nat → Nat → Int32) → (Nat → Int64) → Prop} {v1 : Int32} {v2 : Int32} {v3 : Int32}  (K : XS mX10_in 0 [(0, .int v3), (1, .int (1 : Int32)), (2, .int (9 : Int32))] [] I L (fun r I' L' => XS mX10_tune 28 [(0, .ref 49), (1, .int v1), (2, .int v2), (3, .int v3)] (r.toList ++ []) I' L' Q)) : XS mX10_tune 21 [(0, .ref 49), (1, .int v1), (2, .int v2), (3, .int v3)] [] I L Q := by
  refine x_iload_n 3 dX10_tune_21 rfl rfl ?_
  refine x_iconst (v := (1 : Int32)) dX10_tune_22 (by decide) ?_
  refine x_bipush (v := (9 : Int32)) dX10_tune_23 (by decide) ?_
  exact xs_callS mX10_in [.int v3, .int (1 : Int32), .int (9 : Int32)] [] 3 _ rfl dX10_tune_25 ml_X10_86 qX10_in rfl ⟨Nat.le_of_ble_eq_true rfl, Nat.le_of_ble_eq_true rfl⟩ ⟨rfl, rfl⟩ (Nat.le_of_ble_eq_true rfl) (Nat.le_of_ble_eq_true rfl) (K)
theorem bX10_tune_28 {I : Nat → Nat → Int32} {L : Nat → Int64} {Q : Option Value → (Nat → Nat → Int32) → (Nat → Int64) → Prop} {v1 : Int32} {v2 : Int32} {v3 : Int32} {s0 : Int32}  (K1 : (¬ s0 = 0) → XS mX10_tune 34 [(0, .ref 49), (1, .int v1), (2, .int v2), (3, .int v3)] [] I L Q) (K2 : (s0 = 0) → XS mX10_tune 31 [] [] I L Q) : XS mX10_tune 28 [(0, .ref 49), (1, .int v1), (2, .int v2), (3, .int v3)] [.int s0] I L Q := by
  exact x_if_ne 34 dX10_tune_28 (by decide) (fun h => K1 h) (fun h => x_sub [] rfl (K2 h))
theorem bX10_tune_31 {I : Nat → Nat → Int32} {L : Nat → Int64} {Q : Option Value → (Nat → Nat → Int32) → (Nat → Int64) → Prop}   (K : Q (some (.int (-3 : Int32))) I L) : XS mX10_tune 31 [] [] I L Q := by
  refine x_bipush (v := (-3 : Int32)) dX10_tune_31 (by decide) ?_
  exact xs_iret dX10_tune_33 rfl rfl K
theorem bX10_tune_34 {I : Nat → Nat → Int32} {L : Nat → Int64} {Q : Option Value → (Nat → Nat → Int32) → (Nat → Int64) → Prop} {v1 : Int32} {v2 : Int32} {v3 : Int32}  (K : XS mX10_notes 0 [(0, .ref 49)] [] I L (fun r I' L' => XS mX10_tune 38 [(0, .ref 49), (1, .int v1), (2, .int v2), (3, .int v3)] (r.toList ++ []) I' L' Q)) : XS mX10_tune 34 [(0, .ref 49), (1, .int v1), (2, .int v2), (3, .int v3)] [] I L Q := by
  refine x_aload_n 0 dX10_tune_34 rfl rfl ?_
  exact xs_callV mX10_notes [] [] 49 10 0 _ rfl dX10_tune_35 ml_X10_224 qX10_notes rfl ⟨Nat.le_of_ble_eq_true rfl, Nat.le_of_ble_eq_true rfl⟩ ⟨rfl, rfl⟩ (Nat.le_of_ble_eq_true rfl) sh_49 (by decide) rfl (Nat.le_of_ble_eq_true rfl) (K)
theorem bX10_tune_38 {I : Nat → Nat → Int32} {L : Nat → Int64} {Q : Option Value → (Nat → Nat → Int32) → (Nat → Int64) → Prop} {v1 : Int32} {v2 : Int32} {v3 : Int32} (hb1 : vp_in ((0 : Int32) + v1) 37) (hb2 : vp_in ((0 : Int32) + v1) 37) (hb3 : vp_in ((14 : Int32) + v1) 37) (K : Q (some (.int (I 3392 (((0 : Int32) + v1).toNatClampNeg)))) (x_up (x_up I 3392 (((0 : Int32) + v1).toNatClampNeg) v2) 3392 (((14 : Int32) + v1).toNatClampNeg) v3) L) : XS mX10_tune 38 [(0, .ref 49), (1, .int v1), (2, .int v2), (3, .int v3)] [] I L Q := by
  refine x_aload_n 0 dX10_tune_38 rfl rfl ?_
  refine xs_getr dX10_tune_39 fl_X10_23 sh_49 rfl rf_3141 ?_
  refine x_iconst (v := (0 : Int32)) dX10_tune_42 (by decide) ?_
  refine x_iload_n 1 dX10_tune_43 rfl rfl ?_
  refine x_iadd dX10_tune_44 ?_
  refine xs_iald 3392 (((0 : Int32) + v1).toNatClampNeg) dX10_tune_45 sh_53 rfl rfl hb1 ?_
  refine x_istore [(0, .ref 49), (1, .int v1), (2, .int v2), (3, .int v3), (4, .int (I 3392 (((0 : Int32) + v1).toNatClampNeg)))] dX10_tune_46 (Nat.le_of_ble_eq_true rfl) rfl ?_
  refine x_aload_n 0 dX10_tune_48 rfl rfl ?_
  refine xs_getr dX10_tune_49 fl_X10_23 sh_49 rfl rf_3141 ?_
  refine x_iconst (v := (0 : Int32)) dX10_tune_52 (by decide) ?_
  refine x_iload_n 1 dX10_tune_53 rfl rfl ?_
  refine x_iadd dX10_tune_54 ?_
  refine x_iload_n 2 dX10_tune_55 rfl rfl ?_
  refine xs_iast 3392 (((0 : Int32) + v1).toNatClampNeg) dX10_tune_56 sh_53 rfl rfl hb2 ?_
  refine x_aload_n 0 dX10_tune_57 rfl rfl ?_
  refine xs_getr dX10_tune_58 fl_X10_23 sh_49 rfl rf_3141 ?_
  refine x_bipush (v := (14 : Int32)) dX10_tune_61 (by decide) ?_
  refine x_iload_n 1 dX10_tune_63 rfl rfl ?_
  refine x_iadd dX10_tune_64 ?_
  refine x_iload_n 3 dX10_tune_65 rfl rfl ?_
  refine xs_iast 3392 (((14 : Int32) + v1).toNatClampNeg) dX10_tune_66 sh_53 rfl rfl hb3 ?_
  refine x_iload 4 dX10_tune_67 rfl ?_
  exact xs_iret dX10_tune_69 rfl rfl K
theorem bX10_learn_0 {I : Nat → Nat → Int32} {L : Nat → Int64} {Q : Option Value → (Nat → Nat → Int32) → (Nat → Int64) → Prop} {v1 : Int32}  (K : XS mX10_isNode 0 [(0, .ref 49), (1, .int v1)] [] I L (fun r I' L' => XS mX10_learn 5 [(0, .ref 49), (1, .int v1)] (r.toList ++ []) I' L' Q)) : XS mX10_learn 0 [(0, .ref 49), (1, .int v1)] [] I L Q := by
  refine x_aload_n 0 dX10_learn_0 rfl rfl ?_
  refine x_iload_n 1 dX10_learn_1 rfl rfl ?_
  exact xs_callV mX10_isNode [.int v1] [] 49 10 1 _ rfl dX10_learn_2 ml_X10_234 qX10_isNode rfl ⟨Nat.le_of_ble_eq_true rfl, Nat.le_of_ble_eq_true rfl⟩ ⟨rfl, rfl⟩ (Nat.le_of_ble_eq_true rfl) sh_49 (by decide) rfl (Nat.le_of_ble_eq_true rfl) (K)
theorem bX10_learn_5 {I : Nat → Nat → Int32} {L : Nat → Int64} {Q : Option Value → (Nat → Nat → Int32) → (Nat → Int64) → Prop} {v1 : Int32} {s0 : Int32}  (K1 : (¬ s0 = 0) → XS mX10_learn 11 [(0, .ref 49), (1, .int v1)] [] I L Q) (K2 : (s0 = 0) → XS mX10_learn 8 [] [] I L Q) : XS mX10_learn 5 [(0, .ref 49), (1, .int v1)] [.int s0] I L Q := by
  exact x_if_ne 11 dX10_learn_5 (by decide) (fun h => K1 h) (fun h => x_sub [] rfl (K2 h))
theorem bX10_learn_8 {I : Nat → Nat → Int32} {L : Nat → Int64} {Q : Option Value → (Nat → Nat → Int32) → (Nat → Int64) → Prop}   (K : Q (some (.int (-2 : Int32))) I L) : XS mX10_learn 8 [] [] I L Q := by
  refine x_bipush (v := (-2 : Int32)) dX10_learn_8 (by decide) ?_
  exact xs_iret dX10_learn_10 rfl rfl K
theorem bX10_learn_11 {I : Nat → Nat → Int32} {L : Nat → Int64} {Q : Option Value → (Nat → Nat → Int32) → (Nat → Int64) → Prop} {v1 : Int32}  (K : XS mX10_notes 0 [(0, .ref 49)] [] I L (fun r I' L' => XS mX10_learn 15 [(0, .ref 49), (1, .int v1)] (r.toList ++ []) I' L' Q)) : XS mX10_learn 11 [(0, .ref 49), (1, .int v1)] [] I L Q := by
  refine x_aload_n 0 dX10_learn_11 rfl rfl ?_
  exact xs_callV mX10_notes [] [] 49 10 0 _ rfl dX10_learn_12 ml_X10_224 qX10_notes rfl ⟨Nat.le_of_ble_eq_true rfl, Nat.le_of_ble_eq_true rfl⟩ ⟨rfl, rfl⟩ (Nat.le_of_ble_eq_true rfl) sh_49 (by decide) rfl (Nat.le_of_ble_eq_true rfl) (K)
theorem bX10_learn_15 {I : Nat → Nat → Int32} {L : Nat → Int64} {Q : Option Value → (Nat → Nat → Int32) → (Nat → Int64) → Prop} {v1 : Int32} (hb1 : vp_in ((29 : Int32) + v1) 37) (K : XS mX10_ones 0 [(0, .int ((I 3392 (((29 : Int32) + v1).toNatClampNeg)) ^^^ (I 3392 28)))] [] I L (fun r I' L' => XS mX10_learn 35 [(0, .ref 49), (1, .int v1)] (r.toList ++ []) I' L' Q)) : XS mX10_learn 15 [(0, .ref 49), (1, .int v1)] [] I L Q := by
  refine x_aload_n 0 dX10_learn_15 rfl rfl ?_
  refine xs_getr dX10_learn_16 fl_X10_23 sh_49 rfl rf_3141 ?_
  refine x_bipush (v := (29 : Int32)) dX10_learn_19 (by decide) ?_
  refine x_iload_n 1 dX10_learn_21 rfl rfl ?_
  refine x_iadd dX10_learn_22 ?_
  refine xs_iald 3392 (((29 : Int32) + v1).toNatClampNeg) dX10_learn_23 sh_53 rfl rfl hb1 ?_
  refine x_aload_n 0 dX10_learn_24 rfl rfl ?_
  refine xs_getr dX10_learn_25 fl_X10_23 sh_49 rfl rf_3141 ?_
  refine x_bipush (v := (28 : Int32)) dX10_learn_28 (by decide) ?_
  refine xs_iald 3392 (28) dX10_learn_30 sh_53 rfl (by decide) (x_vpin (by decide)) ?_
  refine x_ixor dX10_learn_31 ?_
  exact xs_callS mX10_ones [.int ((I 3392 (((29 : Int32) + v1).toNatClampNeg)) ^^^ (I 3392 28))] [] 1 _ rfl dX10_learn_32 ml_X10_227 qX10_ones rfl ⟨Nat.le_of_ble_eq_true rfl, Nat.le_of_ble_eq_true rfl⟩ ⟨rfl, rfl⟩ (Nat.le_of_ble_eq_true rfl) (Nat.le_of_ble_eq_true rfl) (K)
theorem bX10_learn_35 {I : Nat → Nat → Int32} {L : Nat → Int64} {Q : Option Value → (Nat → Nat → Int32) → (Nat → Int64) → Prop} {v1 : Int32} {s0 : Int32} (hb1 : vp_in ((29 : Int32) + v1) 37) (K : Q (some (.int s0)) (x_up I 3392 (((29 : Int32) + v1).toNatClampNeg) (I 3392 28)) L) : XS mX10_learn 35 [(0, .ref 49), (1, .int v1)] [.int s0] I L Q := by
  refine x_istore_n [(0, .ref 49), (1, .int v1), (2, .int s0)] dX10_learn_35 rfl (Nat.le_of_ble_eq_true rfl) rfl ?_
  refine x_aload_n 0 dX10_learn_36 rfl rfl ?_
  refine xs_getr dX10_learn_37 fl_X10_23 sh_49 rfl rf_3141 ?_
  refine x_bipush (v := (29 : Int32)) dX10_learn_40 (by decide) ?_
  refine x_iload_n 1 dX10_learn_42 rfl rfl ?_
  refine x_iadd dX10_learn_43 ?_
  refine x_aload_n 0 dX10_learn_44 rfl rfl ?_
  refine xs_getr dX10_learn_45 fl_X10_23 sh_49 rfl rf_3141 ?_
  refine x_bipush (v := (28 : Int32)) dX10_learn_48 (by decide) ?_
  refine xs_iald 3392 (28) dX10_learn_50 sh_53 rfl (by decide) (x_vpin (by decide)) ?_
  refine xs_iast 3392 (((29 : Int32) + v1).toNatClampNeg) dX10_learn_51 sh_53 rfl rfl hb1 ?_
  refine x_iload_n 2 dX10_learn_52 rfl rfl ?_
  exact xs_iret dX10_learn_53 rfl rfl K
theorem bX10_undo_0 {I : Nat → Nat → Int32} {L : Nat → Int64} {Q : Option Value → (Nat → Nat → Int32) → (Nat → Int64) → Prop}   (K1 : (¬ (I 3143 0) = 0) → XS mX10_undo 10 [(0, .ref 49)] [] I L Q) (K2 : ((I 3143 0) = 0) → XS mX10_undo 7 [] [] I L Q) : XS mX10_undo 0 [(0, .ref 49)] [] I L Q := by
  refine x_aload_n 0 dX10_undo_0 rfl rfl ?_
  refine xs_geti 3143 dX10_undo_1 fl_X10_203 sh_49 rfl rfl ?_
  exact x_if_ne 10 dX10_undo_4 (by decide) (fun h => K1 h) (fun h => x_sub [] rfl (K2 h))
theorem bX10_undo_7 {I : Nat → Nat → Int32} {L : Nat → Int64} {Q : Option Value → (Nat → Nat → Int32) → (Nat → Int64) → Prop}   (K : Q (some (.int (-4 : Int32))) I L) : XS mX10_undo 7 [] [] I L Q := by
  refine x_bipush (v := (-4 : Int32)) dX10_undo_7 (by decide) ?_
  exact xs_iret dX10_undo_9 rfl rfl K
theorem bX10_undo_10 {I : Nat → Nat → Int32} {L : Nat → Int64} {Q : Option Value → (Nat → Nat → Int32) → (Nat → Int64) → Prop}   (K : XS mX10_undo 22 [(0, .ref 49), (1, .int (0 : Int32))] [] (x_up I 3143 0 ((I 3143 0) - (1 : Int32))) L Q) : XS mX10_undo 10 [(0, .ref 49)] [] I L Q := by
  refine x_aload_n 0 dX10_undo_10 rfl rfl ?_
  refine x_dup dX10_undo_11 rfl ?_
  refine xs_geti 3143 dX10_undo_12 fl_X10_203 sh_49 rfl rfl ?_
  refine x_iconst (v := (1 : Int32)) dX10_undo_15 (by decide) ?_
  refine x_isub dX10_undo_16 ?_
  refine xs_puti 3143 dX10_undo_17 fl_X10_203 sh_49 rfl rfl rfl ?_
  refine x_iconst (v := (0 : Int32)) dX10_undo_20 (by decide) ?_
  refine x_istore_n [(0, .ref 49), (1, .int (0 : Int32))] dX10_undo_21 rfl (Nat.le_of_ble_eq_true rfl) rfl ?_
  exact K
theorem bX10_undo_22 {I : Nat → Nat → Int32} {L : Nat → Int64} {Q : Option Value → (Nat → Nat → Int32) → (Nat → Int64) → Prop} {v1 : Int32}  (K1 : ((37 : Int32) ≤ v1) → XS mX10_undo 54 [(0, .ref 49)] [] I L Q) (K2 : (¬ (37 : Int32) ≤ v1) → XS mX10_undo 28 [(0, .ref 49), (1, .int v1)] [] I L Q) : XS mX10_undo 22 [(0, .ref 49), (1, .int v1)] [] I L Q := by
  refine x_iload_n 1 dX10_undo_22 rfl rfl ?_
  refine x_bipush (v := (37 : Int32)) dX10_undo_23 (by decide) ?_
  exact x_icmp_ge 54 dX10_undo_25 (by decide) (fun h => x_sub [0] rfl (K1 h)) (fun h => K2 h)
theorem bX10_undo_28 {I : Nat → Nat → Int32} {L : Nat → Int64} {Q : Option Value → (Nat → Nat → Int32) → (Nat → Int64) → Prop} {v1 : Int32} (hb1 : vp_in (((37 : Int32) * (I 3143 0)) + v1) 296) (hb2 : vp_in v1 37) (K : XS mX10_undo 22 [(0, .ref 49), (1, .int (v1 + (1 : Int32)))] [] (x_up I 3392 (v1.toNatClampNeg) (I 3456 ((((37 : Int32) * (I 3143 0)) + v1).toNatClampNeg))) L Q) : XS mX10_undo 28 [(0, .ref 49), (1, .int v1)] [] I L Q := by
  refine x_aload_n 0 dX10_undo_28 rfl rfl ?_
  refine xs_getr dX10_undo_29 fl_X10_23 sh_49 rfl rf_3141 ?_
  refine x_iload_n 1 dX10_undo_32 rfl rfl ?_
  refine x_aload_n 0 dX10_undo_33 rfl rfl ?_
  refine xs_getr dX10_undo_34 fl_X10_26 sh_49 rfl rf_3142 ?_
  refine x_bipush (v := (37 : Int32)) dX10_undo_37 (by decide) ?_
  refine x_aload_n 0 dX10_undo_39 rfl rfl ?_
  refine xs_geti 3143 dX10_undo_40 fl_X10_203 sh_49 rfl rfl ?_
  refine x_imul dX10_undo_43 ?_
  refine x_iload_n 1 dX10_undo_44 rfl rfl ?_
  refine x_iadd dX10_undo_45 ?_
  refine xs_iald 3456 ((((37 : Int32) * (I 3143 0)) + v1).toNatClampNeg) dX10_undo_46 sh_54 rfl rfl hb1 ?_
  refine xs_iast 3392 (v1.toNatClampNeg) dX10_undo_47 sh_53 rfl rfl hb2 ?_
  refine x_iinc 1 (v1 + (1 : Int32)) [(0, .ref 49), (1, .int (v1 + (1 : Int32)))] dX10_undo_48 rfl rfl (Nat.le_of_ble_eq_true rfl) rfl ?_
  exact x_goto 22 dX10_undo_51 (by decide) (K)
theorem bX10_undo_54 {I : Nat → Nat → Int32} {L : Nat → Int64} {Q : Option Value → (Nat → Nat → Int32) → (Nat → Int64) → Prop}   (K : Q (some (.int (I 3143 0))) I L) : XS mX10_undo 54 [(0, .ref 49)] [] I L Q := by
  refine x_aload_n 0 dX10_undo_54 rfl rfl ?_
  refine xs_geti 3143 dX10_undo_55 fl_X10_203 sh_49 rfl rfl ?_
  exact xs_iret dX10_undo_58 rfl rfl K
theorem bX10_seen_0 {I : Nat → Nat → Int32} {L : Nat → Int64} {Q : Option Value → (Nat → Nat → Int32) → (Nat → Int64) → Prop} {v1 : Int32}  (K : XS mX10_isNode 0 [(0, .ref 49), (1, .int v1)] [] I L (fun r I' L' => XS mX10_seen 5 [(0, .ref 49), (1, .int v1)] (r.toList ++ []) I' L' Q)) : XS mX10_seen 0 [(0, .ref 49), (1, .int v1)] [] I L Q := by
  refine x_aload_n 0 dX10_seen_0 rfl rfl ?_
  refine x_iload_n 1 dX10_seen_1 rfl rfl ?_
  exact xs_callV mX10_isNode [.int v1] [] 49 10 1 _ rfl dX10_seen_2 ml_X10_234 qX10_isNode rfl ⟨Nat.le_of_ble_eq_true rfl, Nat.le_of_ble_eq_true rfl⟩ ⟨rfl, rfl⟩ (Nat.le_of_ble_eq_true rfl) sh_49 (by decide) rfl (Nat.le_of_ble_eq_true rfl) (K)
theorem bX10_seen_5 {I : Nat → Nat → Int32} {L : Nat → Int64} {Q : Option Value → (Nat → Nat → Int32) → (Nat → Int64) → Prop} {v1 : Int32} {s0 : Int32}  (K1 : (s0 = 0) → XS mX10_seen 20 [] [] I L Q) (K2 : (¬ s0 = 0) → XS mX10_seen 8 [(0, .ref 49), (1, .int v1)] [] I L Q) : XS mX10_seen 5 [(0, .ref 49), (1, .int v1)] [.int s0] I L Q := by
  exact x_if_eq 20 dX10_seen_5 (by decide) (fun h => x_sub [] rfl (K1 h)) (fun h => K2 h)
theorem bX10_seen_8 {I : Nat → Nat → Int32} {L : Nat → Int64} {Q : Option Value → (Nat → Nat → Int32) → (Nat → Int64) → Prop} {v1 : Int32} (hb1 : vp_in ((29 : Int32) + v1) 37) (K : XS mX10_seen 22 [] [.int (I 3392 (((29 : Int32) + v1).toNatClampNeg))] I L Q) : XS mX10_seen 8 [(0, .ref 49), (1, .int v1)] [] I L Q := by
  refine x_aload_n 0 dX10_seen_8 rfl rfl ?_
  refine xs_getr dX10_seen_9 fl_X10_23 sh_49 rfl rf_3141 ?_
  refine x_bipush (v := (29 : Int32)) dX10_seen_12 (by decide) ?_
  refine x_iload_n 1 dX10_seen_14 rfl rfl ?_
  refine x_iadd dX10_seen_15 ?_
  refine xs_iald 3392 (((29 : Int32) + v1).toNatClampNeg) dX10_seen_16 sh_53 rfl rfl hb1 ?_
  exact x_goto 22 dX10_seen_17 (by decide) (x_sub [] rfl (K))
theorem bX10_seen_20 {I : Nat → Nat → Int32} {L : Nat → Int64} {Q : Option Value → (Nat → Nat → Int32) → (Nat → Int64) → Prop}   (K : XS mX10_seen 22 [] [.int (-2 : Int32)] I L Q) : XS mX10_seen 20 [] [] I L Q := by
  refine x_bipush (v := (-2 : Int32)) dX10_seen_20 (by decide) ?_
  exact K
theorem bX10_seen_22 {I : Nat → Nat → Int32} {L : Nat → Int64} {Q : Option Value → (Nat → Nat → Int32) → (Nat → Int64) → Prop} {s0 : Int32}  (K : Q (some (.int s0)) I L) : XS mX10_seen 22 [] [.int s0] I L Q := by
  exact xs_iret dX10_seen_22 rfl rfl K
theorem bX10_next_0 {I : Nat → Nat → Int32} {L : Nat → Int64} {Q : Option Value → (Nat → Nat → Int32) → (Nat → Int64) → Prop} {v1 : Int32} {v2 : Int32} {v3 : Int32}  (K : XS mX10_isNode 0 [(0, .ref 49), (1, .int v1)] [] I L (fun r I' L' => XS mX10_next 5 [(0, .ref 49), (1, .int v1), (2, .int v2), (3, .int v3)] (r.toList ++ []) I' L' Q)) : XS mX10_next 0 [(0, .ref 49), (1, .int v1), (2, .int v2), (3, .int v3)] [] I L Q := by
  refine x_aload_n 0 dX10_next_0 rfl rfl ?_
  refine x_iload_n 1 dX10_next_1 rfl rfl ?_
  exact xs_callV mX10_isNode [.int v1] [] 49 10 1 _ rfl dX10_next_2 ml_X10_234 qX10_isNode rfl ⟨Nat.le_of_ble_eq_true rfl, Nat.le_of_ble_eq_true rfl⟩ ⟨rfl, rfl⟩ (Nat.le_of_ble_eq_true rfl) sh_49 (by decide) rfl (Nat.le_of_ble_eq_true rfl) (K)
theorem bX10_next_5 {I : Nat → Nat → Int32} {L : Nat → Int64} {Q : Option Value → (Nat → Nat → Int32) → (Nat → Int64) → Prop} {v1 : Int32} {v2 : Int32} {v3 : Int32} {s0 : Int32}  (K1 : (s0 = 0) → XS mX10_next 16 [] [] I L Q) (K2 : (¬ s0 = 0) → XS mX10_next 8 [(0, .ref 49), (1, .int v1), (2, .int v2), (3, .int v3)] [] I L Q) : XS mX10_next 5 [(0, .ref 49), (1, .int v1), (2, .int v2), (3, .int v3)] [.int s0] I L Q := by
  exact x_if_eq 16 dX10_next_5 (by decide) (fun h => x_sub [] rfl (K1 h)) (fun h => K2 h)
theorem bX10_next_8 {I : Nat → Nat → Int32} {L : Nat → Int64} {Q : Option Value → (Nat → Nat → Int32) → (Nat → Int64) → Prop} {v1 : Int32} {v2 : Int32} {v3 : Int32}  (K : XS mX10_isNode 0 [(0, .ref 49), (1, .int v2)] [] I L (fun r I' L' => XS mX10_next 13 [(0, .ref 49), (1, .int v1), (2, .int v2), (3, .int v3)] (r.toList ++ []) I' L' Q)) : XS mX10_next 8 [(0, .ref 49), (1, .int v1), (2, .int v2), (3, .int v3)] [] I L Q := by
  refine x_aload_n 0 dX10_next_8 rfl rfl ?_
  refine x_iload_n 2 dX10_next_9 rfl rfl ?_
  exact xs_callV mX10_isNode [.int v2] [] 49 10 1 _ rfl dX10_next_10 ml_X10_234 qX10_isNode rfl ⟨Nat.le_of_ble_eq_true rfl, Nat.le_of_ble_eq_true rfl⟩ ⟨rfl, rfl⟩ (Nat.le_of_ble_eq_true rfl) sh_49 (by decide) rfl (Nat.le_of_ble_eq_true rfl) (K)
theorem bX10_next_13 {I : Nat → Nat → Int32} {L : Nat → Int64} {Q : Option Value → (Nat → Nat → Int32) → (Nat → Int64) → Prop} {v1 : Int32} {v2 : Int32} {v3 : Int32} {s0 : Int32}  (K1 : (¬ s0 = 0) → XS mX10_next 19 [(0, .ref 49), (1, .int v1), (2, .int v2), (3, .int v3)] [] I L Q) (K2 : (s0 = 0) → XS mX10_next 16 [] [] I L Q) : XS mX10_next 13 [(0, .ref 49), (1, .int v1), (2, .int v2), (3, .int v3)] [.int s0] I L Q := by
  exact x_if_ne 19 dX10_next_13 (by decide) (fun h => K1 h) (fun h => x_sub [] rfl (K2 h))
theorem bX10_next_16 {I : Nat → Nat → Int32} {L : Nat → Int64} {Q : Option Value → (Nat → Nat → Int32) → (Nat → Int64) → Prop}   (K : Q (some (.int (-2 : Int32))) I L) : XS mX10_next 16 [] [] I L Q := by
  refine x_bipush (v := (-2 : Int32)) dX10_next_16 (by decide) ?_
  exact xs_iret dX10_next_18 rfl rfl K
theorem bX10_next_19 {I : Nat → Nat → Int32} {L : Nat → Int64} {Q : Option Value → (Nat → Nat → Int32) → (Nat → Int64) → Prop} {v1 : Int32} {v2 : Int32} {v3 : Int32}  (K : XS mX10_in 0 [(0, .int v3), (1, .int (0 : Int32)), (2, .int (1 : Int32))] [] I L (fun r I' L' => XS mX10_next 25 [(0, .ref 49), (1, .int v1), (2, .int v2), (3, .int v3)] (r.toList ++ []) I' L' Q)) : XS mX10_next 19 [(0, .ref 49), (1, .int v1), (2, .int v2), (3, .int v3)] [] I L Q := by
  refine x_iload_n 3 dX10_next_19 rfl rfl ?_
  refine x_iconst (v := (0 : Int32)) dX10_next_20 (by decide) ?_
  refine x_iconst (v := (1 : Int32)) dX10_next_21 (by decide) ?_
  exact xs_callS mX10_in [.int v3, .int (0 : Int32), .int (1 : Int32)] [] 3 _ rfl dX10_next_22 ml_X10_86 qX10_in rfl ⟨Nat.le_of_ble_eq_true rfl, Nat.le_of_ble_eq_true rfl⟩ ⟨rfl, rfl⟩ (Nat.le_of_ble_eq_true rfl) (Nat.le_of_ble_eq_true rfl) (K)
theorem bX10_next_25 {I : Nat → Nat → Int32} {L : Nat → Int64} {Q : Option Value → (Nat → Nat → Int32) → (Nat → Int64) → Prop} {v1 : Int32} {v2 : Int32} {v3 : Int32} {s0 : Int32}  (K1 : (¬ s0 = 0) → XS mX10_next 31 [(0, .ref 49), (1, .int v1), (2, .int v2), (3, .int v3)] [] I L Q) (K2 : (s0 = 0) → XS mX10_next 28 [] [] I L Q) : XS mX10_next 25 [(0, .ref 49), (1, .int v1), (2, .int v2), (3, .int v3)] [.int s0] I L Q := by
  exact x_if_ne 31 dX10_next_25 (by decide) (fun h => K1 h) (fun h => x_sub [] rfl (K2 h))
theorem bX10_next_28 {I : Nat → Nat → Int32} {L : Nat → Int64} {Q : Option Value → (Nat → Nat → Int32) → (Nat → Int64) → Prop}   (K : Q (some (.int (-3 : Int32))) I L) : XS mX10_next 28 [] [] I L Q := by
  refine x_bipush (v := (-3 : Int32)) dX10_next_28 (by decide) ?_
  exact xs_iret dX10_next_30 rfl rfl K
theorem bX10_next_31 {I : Nat → Nat → Int32} {L : Nat → Int64} {Q : Option Value → (Nat → Nat → Int32) → (Nat → Int64) → Prop} {v1 : Int32} {v2 : Int32} {v3 : Int32} (hb1 : vp_in ((29 : Int32) + v1) 37) (K : XS mX10_lays 0 [(0, .ref 49), (1, .int v3), (2, .int (I 3392 (((29 : Int32) + v1).toNatClampNeg)))] [] I L (fun r I' L' => XS mX10_next 45 [(0, .ref 49), (1, .int v1), (2, .int v2), (3, .int v3)] (r.toList ++ []) I' L' Q)) : XS mX10_next 31 [(0, .ref 49), (1, .int v1), (2, .int v2), (3, .int v3)] [] I L Q := by
  refine x_aload_n 0 dX10_next_31 rfl rfl ?_
  refine x_iload_n 3 dX10_next_32 rfl rfl ?_
  refine x_aload_n 0 dX10_next_33 rfl rfl ?_
  refine xs_getr dX10_next_34 fl_X10_23 sh_49 rfl rf_3141 ?_
  refine x_bipush (v := (29 : Int32)) dX10_next_37 (by decide) ?_
  refine x_iload_n 1 dX10_next_39 rfl rfl ?_
  refine x_iadd dX10_next_40 ?_
  refine xs_iald 3392 (((29 : Int32) + v1).toNatClampNeg) dX10_next_41 sh_53 rfl rfl hb1 ?_
  exact xs_callV mX10_lays [.int v3, .int (I 3392 (((29 : Int32) + v1).toNatClampNeg))] [] 49 10 2 _ rfl dX10_next_42 ml_X10_104 qX10_lays rfl ⟨Nat.le_of_ble_eq_true rfl, Nat.le_of_ble_eq_true rfl⟩ ⟨rfl, rfl⟩ (Nat.le_of_ble_eq_true rfl) sh_49 (by decide) rfl (Nat.le_of_ble_eq_true rfl) (K)
theorem bX10_next_45 {I : Nat → Nat → Int32} {L : Nat → Int64} {Q : Option Value → (Nat → Nat → Int32) → (Nat → Int64) → Prop} {v1 : Int32} {v2 : Int32} {v3 : Int32} (hb1 : vp_in ((29 : Int32) + v1) 37) (K : XS mX10_nextOf 0 [(0, .ref 49), (1, .int v1), (2, .int v2), (3, .int v3), (4, .int (I 3392 (((29 : Int32) + v1).toNatClampNeg)))] [] I L (fun r I' L' => XS mX10_next 61 [] (r.toList ++ []) I' L' Q)) : XS mX10_next 45 [(0, .ref 49), (1, .int v1), (2, .int v2), (3, .int v3)] [] I L Q := by
  refine x_aload_n 0 dX10_next_45 rfl rfl ?_
  refine x_iload_n 1 dX10_next_46 rfl rfl ?_
  refine x_iload_n 2 dX10_next_47 rfl rfl ?_
  refine x_iload_n 3 dX10_next_48 rfl rfl ?_
  refine x_aload_n 0 dX10_next_49 rfl rfl ?_
  refine xs_getr dX10_next_50 fl_X10_23 sh_49 rfl rf_3141 ?_
  refine x_bipush (v := (29 : Int32)) dX10_next_53 (by decide) ?_
  refine x_iload_n 1 dX10_next_55 rfl rfl ?_
  refine x_iadd dX10_next_56 ?_
  refine xs_iald 3392 (((29 : Int32) + v1).toNatClampNeg) dX10_next_57 sh_53 rfl rfl hb1 ?_
  refine x_sub [] rfl ?_
  exact xs_callV mX10_nextOf [.int v1, .int v2, .int v3, .int (I 3392 (((29 : Int32) + v1).toNatClampNeg))] [] 49 10 4 _ rfl dX10_next_58 ml_X10_111 qX10_nextOf rfl ⟨Nat.le_of_ble_eq_true rfl, Nat.le_of_ble_eq_true rfl⟩ ⟨rfl, rfl⟩ (Nat.le_of_ble_eq_true rfl) sh_49 (by decide) rfl (Nat.le_of_ble_eq_true rfl) (K)
theorem bX10_next_61 {I : Nat → Nat → Int32} {L : Nat → Int64} {Q : Option Value → (Nat → Nat → Int32) → (Nat → Int64) → Prop} {s0 : Int32}  (K : Q (some (.int s0)) I L) : XS mX10_next 61 [] [.int s0] I L Q := by
  exact xs_iret dX10_next_61 rfl rfl K
theorem bX10_far_0 {I : Nat → Nat → Int32} {L : Nat → Int64} {Q : Option Value → (Nat → Nat → Int32) → (Nat → Int64) → Prop} {v1 : Int32} {v2 : Int32} {v3 : Int32}  (K : XS mX10_isNode 0 [(0, .ref 49), (1, .int v1)] [] I L (fun r I' L' => XS mX10_far 5 [(0, .ref 49), (1, .int v1), (2, .int v2), (3, .int v3)] (r.toList ++ []) I' L' Q)) : XS mX10_far 0 [(0, .ref 49), (1, .int v1), (2, .int v2), (3, .int v3)] [] I L Q := by
  refine x_aload_n 0 dX10_far_0 rfl rfl ?_
  refine x_iload_n 1 dX10_far_1 rfl rfl ?_
  exact xs_callV mX10_isNode [.int v1] [] 49 10 1 _ rfl dX10_far_2 ml_X10_234 qX10_isNode rfl ⟨Nat.le_of_ble_eq_true rfl, Nat.le_of_ble_eq_true rfl⟩ ⟨rfl, rfl⟩ (Nat.le_of_ble_eq_true rfl) sh_49 (by decide) rfl (Nat.le_of_ble_eq_true rfl) (K)
theorem bX10_far_5 {I : Nat → Nat → Int32} {L : Nat → Int64} {Q : Option Value → (Nat → Nat → Int32) → (Nat → Int64) → Prop} {v1 : Int32} {v2 : Int32} {v3 : Int32} {s0 : Int32}  (K1 : (s0 = 0) → XS mX10_far 16 [] [] I L Q) (K2 : (¬ s0 = 0) → XS mX10_far 8 [(0, .ref 49), (1, .int v1), (2, .int v2), (3, .int v3)] [] I L Q) : XS mX10_far 5 [(0, .ref 49), (1, .int v1), (2, .int v2), (3, .int v3)] [.int s0] I L Q := by
  exact x_if_eq 16 dX10_far_5 (by decide) (fun h => x_sub [] rfl (K1 h)) (fun h => K2 h)
theorem bX10_far_8 {I : Nat → Nat → Int32} {L : Nat → Int64} {Q : Option Value → (Nat → Nat → Int32) → (Nat → Int64) → Prop} {v1 : Int32} {v2 : Int32} {v3 : Int32}  (K : XS mX10_isNode 0 [(0, .ref 49), (1, .int v2)] [] I L (fun r I' L' => XS mX10_far 13 [(0, .ref 49), (1, .int v1), (2, .int v2), (3, .int v3)] (r.toList ++ []) I' L' Q)) : XS mX10_far 8 [(0, .ref 49), (1, .int v1), (2, .int v2), (3, .int v3)] [] I L Q := by
  refine x_aload_n 0 dX10_far_8 rfl rfl ?_
  refine x_iload_n 2 dX10_far_9 rfl rfl ?_
  exact xs_callV mX10_isNode [.int v2] [] 49 10 1 _ rfl dX10_far_10 ml_X10_234 qX10_isNode rfl ⟨Nat.le_of_ble_eq_true rfl, Nat.le_of_ble_eq_true rfl⟩ ⟨rfl, rfl⟩ (Nat.le_of_ble_eq_true rfl) sh_49 (by decide) rfl (Nat.le_of_ble_eq_true rfl) (K)
theorem bX10_far_13 {I : Nat → Nat → Int32} {L : Nat → Int64} {Q : Option Value → (Nat → Nat → Int32) → (Nat → Int64) → Prop} {v1 : Int32} {v2 : Int32} {v3 : Int32} {s0 : Int32}  (K1 : (¬ s0 = 0) → XS mX10_far 19 [(0, .ref 49), (1, .int v1), (2, .int v2), (3, .int v3)] [] I L Q) (K2 : (s0 = 0) → XS mX10_far 16 [] [] I L Q) : XS mX10_far 13 [(0, .ref 49), (1, .int v1), (2, .int v2), (3, .int v3)] [.int s0] I L Q := by
  exact x_if_ne 19 dX10_far_13 (by decide) (fun h => K1 h) (fun h => x_sub [] rfl (K2 h))
theorem bX10_far_16 {I : Nat → Nat → Int32} {L : Nat → Int64} {Q : Option Value → (Nat → Nat → Int32) → (Nat → Int64) → Prop}   (K : Q (some (.int (-2 : Int32))) I L) : XS mX10_far 16 [] [] I L Q := by
  refine x_bipush (v := (-2 : Int32)) dX10_far_16 (by decide) ?_
  exact xs_iret dX10_far_18 rfl rfl K
theorem bX10_far_19 {I : Nat → Nat → Int32} {L : Nat → Int64} {Q : Option Value → (Nat → Nat → Int32) → (Nat → Int64) → Prop} {v1 : Int32} {v2 : Int32} {v3 : Int32}  (K : XS mX10_in 0 [(0, .int v3), (1, .int (0 : Int32)), (2, .int (1 : Int32))] [] I L (fun r I' L' => XS mX10_far 25 [(0, .ref 49), (1, .int v1), (2, .int v2), (3, .int v3)] (r.toList ++ []) I' L' Q)) : XS mX10_far 19 [(0, .ref 49), (1, .int v1), (2, .int v2), (3, .int v3)] [] I L Q := by
  refine x_iload_n 3 dX10_far_19 rfl rfl ?_
  refine x_iconst (v := (0 : Int32)) dX10_far_20 (by decide) ?_
  refine x_iconst (v := (1 : Int32)) dX10_far_21 (by decide) ?_
  exact xs_callS mX10_in [.int v3, .int (0 : Int32), .int (1 : Int32)] [] 3 _ rfl dX10_far_22 ml_X10_86 qX10_in rfl ⟨Nat.le_of_ble_eq_true rfl, Nat.le_of_ble_eq_true rfl⟩ ⟨rfl, rfl⟩ (Nat.le_of_ble_eq_true rfl) (Nat.le_of_ble_eq_true rfl) (K)
theorem bX10_far_25 {I : Nat → Nat → Int32} {L : Nat → Int64} {Q : Option Value → (Nat → Nat → Int32) → (Nat → Int64) → Prop} {v1 : Int32} {v2 : Int32} {v3 : Int32} {s0 : Int32}  (K1 : (¬ s0 = 0) → XS mX10_far 31 [(0, .ref 49), (1, .int v1), (2, .int v2), (3, .int v3)] [] I L Q) (K2 : (s0 = 0) → XS mX10_far 28 [] [] I L Q) : XS mX10_far 25 [(0, .ref 49), (1, .int v1), (2, .int v2), (3, .int v3)] [.int s0] I L Q := by
  exact x_if_ne 31 dX10_far_25 (by decide) (fun h => K1 h) (fun h => x_sub [] rfl (K2 h))
theorem bX10_far_28 {I : Nat → Nat → Int32} {L : Nat → Int64} {Q : Option Value → (Nat → Nat → Int32) → (Nat → Int64) → Prop}   (K : Q (some (.int (-3 : Int32))) I L) : XS mX10_far 28 [] [] I L Q := by
  refine x_bipush (v := (-3 : Int32)) dX10_far_28 (by decide) ?_
  exact xs_iret dX10_far_30 rfl rfl K
theorem bX10_far_31 {I : Nat → Nat → Int32} {L : Nat → Int64} {Q : Option Value → (Nat → Nat → Int32) → (Nat → Int64) → Prop} {v1 : Int32} {v2 : Int32} {v3 : Int32} (hb1 : vp_in ((29 : Int32) + v1) 37) (K : XS mX10_lays 0 [(0, .ref 49), (1, .int v3), (2, .int (I 3392 (((29 : Int32) + v1).toNatClampNeg)))] [] I L (fun r I' L' => XS mX10_far 45 [(0, .ref 49), (1, .int v1), (2, .int v2)] (r.toList ++ []) I' L' Q)) : XS mX10_far 31 [(0, .ref 49), (1, .int v1), (2, .int v2), (3, .int v3)] [] I L Q := by
  refine x_aload_n 0 dX10_far_31 rfl rfl ?_
  refine x_iload_n 3 dX10_far_32 rfl rfl ?_
  refine x_aload_n 0 dX10_far_33 rfl rfl ?_
  refine xs_getr dX10_far_34 fl_X10_23 sh_49 rfl rf_3141 ?_
  refine x_bipush (v := (29 : Int32)) dX10_far_37 (by decide) ?_
  refine x_iload_n 1 dX10_far_39 rfl rfl ?_
  refine x_iadd dX10_far_40 ?_
  refine xs_iald 3392 (((29 : Int32) + v1).toNatClampNeg) dX10_far_41 sh_53 rfl rfl hb1 ?_
  refine x_sub [0, 1, 2] rfl ?_
  exact xs_callV mX10_lays [.int v3, .int (I 3392 (((29 : Int32) + v1).toNatClampNeg))] [] 49 10 2 _ rfl dX10_far_42 ml_X10_104 qX10_lays rfl ⟨Nat.le_of_ble_eq_true rfl, Nat.le_of_ble_eq_true rfl⟩ ⟨rfl, rfl⟩ (Nat.le_of_ble_eq_true rfl) sh_49 (by decide) rfl (Nat.le_of_ble_eq_true rfl) (K)
theorem bX10_far_45 {I : Nat → Nat → Int32} {L : Nat → Int64} {Q : Option Value → (Nat → Nat → Int32) → (Nat → Int64) → Prop} {v1 : Int32} {v2 : Int32} (hb1 : vp_in (((8 : Int32) * v1) + v2) 64) (K1 : ((9999 : Int32) ≤ (I 3712 ((((8 : Int32) * v1) + v2).toNatClampNeg))) → XS mX10_far 76 [] [] I L Q) (K2 : (¬ (9999 : Int32) ≤ (I 3712 ((((8 : Int32) * v1) + v2).toNatClampNeg))) → XS mX10_far 62 [(0, .ref 49), (1, .int v1), (2, .int v2)] [] I L Q) : XS mX10_far 45 [(0, .ref 49), (1, .int v1), (2, .int v2)] [] I L Q := by
  refine x_aload_n 0 dX10_far_45 rfl rfl ?_
  refine xs_getr dX10_far_46 fl_X10_38 sh_49 rfl rf_3150 ?_
  refine x_bipush (v := (8 : Int32)) dX10_far_49 (by decide) ?_
  refine x_iload_n 1 dX10_far_51 rfl rfl ?_
  refine x_imul dX10_far_52 ?_
  refine x_iload_n 2 dX10_far_53 rfl rfl ?_
  refine x_iadd dX10_far_54 ?_
  refine xs_iald 3712 ((((8 : Int32) * v1) + v2).toNatClampNeg) dX10_far_55 sh_58 rfl rfl hb1 ?_
  refine x_sipush (v := (9999 : Int32)) dX10_far_56 (by decide) ?_
  exact x_icmp_ge 76 dX10_far_59 (by decide) (fun h => x_sub [] rfl (K1 h)) (fun h => K2 h)
theorem bX10_far_62 {I : Nat → Nat → Int32} {L : Nat → Int64} {Q : Option Value → (Nat → Nat → Int32) → (Nat → Int64) → Prop} {v1 : Int32} {v2 : Int32} (hb1 : vp_in (((8 : Int32) * v1) + v2) 64) (K : XS mX10_far 77 [] [.int (I 3712 ((((8 : Int32) * v1) + v2).toNatClampNeg))] I L Q) : XS mX10_far 62 [(0, .ref 49), (1, .int v1), (2, .int v2)] [] I L Q := by
  refine x_aload_n 0 dX10_far_62 rfl rfl ?_
  refine xs_getr dX10_far_63 fl_X10_38 sh_49 rfl rf_3150 ?_
  refine x_bipush (v := (8 : Int32)) dX10_far_66 (by decide) ?_
  refine x_iload_n 1 dX10_far_68 rfl rfl ?_
  refine x_imul dX10_far_69 ?_
  refine x_iload_n 2 dX10_far_70 rfl rfl ?_
  refine x_iadd dX10_far_71 ?_
  refine xs_iald 3712 ((((8 : Int32) * v1) + v2).toNatClampNeg) dX10_far_72 sh_58 rfl rfl hb1 ?_
  exact x_goto 77 dX10_far_73 (by decide) (x_sub [] rfl (K))
theorem bX10_far_76 {I : Nat → Nat → Int32} {L : Nat → Int64} {Q : Option Value → (Nat → Nat → Int32) → (Nat → Int64) → Prop}   (K : XS mX10_far 77 [] [.int (-1 : Int32)] I L Q) : XS mX10_far 76 [] [] I L Q := by
  refine x_iconst (v := (-1 : Int32)) dX10_far_76 (by decide) ?_
  exact K
theorem bX10_far_77 {I : Nat → Nat → Int32} {L : Nat → Int64} {Q : Option Value → (Nat → Nat → Int32) → (Nat → Int64) → Prop} {s0 : Int32}  (K : Q (some (.int s0)) I L) : XS mX10_far 77 [] [.int s0] I L Q := by
  exact xs_iret dX10_far_77 rfl rfl K
theorem bX10_space_0 {I : Nat → Nat → Int32} {L : Nat → Int64} {Q : Option Value → (Nat → Nat → Int32) → (Nat → Int64) → Prop} {v1 : Int32} {v2 : Int32} {v3 : Int32}  (K : XS mX10_isNode 0 [(0, .ref 49), (1, .int v1)] [] I L (fun r I' L' => XS mX10_space 5 [(0, .ref 49), (1, .int v1), (2, .int v2), (3, .int v3)] (r.toList ++ []) I' L' Q)) : XS mX10_space 0 [(0, .ref 49), (1, .int v1), (2, .int v2), (3, .int v3)] [] I L Q := by
  refine x_aload_n 0 dX10_space_0 rfl rfl ?_
  refine x_iload_n 1 dX10_space_1 rfl rfl ?_
  exact xs_callV mX10_isNode [.int v1] [] 49 10 1 _ rfl dX10_space_2 ml_X10_234 qX10_isNode rfl ⟨Nat.le_of_ble_eq_true rfl, Nat.le_of_ble_eq_true rfl⟩ ⟨rfl, rfl⟩ (Nat.le_of_ble_eq_true rfl) sh_49 (by decide) rfl (Nat.le_of_ble_eq_true rfl) (K)
theorem bX10_space_5 {I : Nat → Nat → Int32} {L : Nat → Int64} {Q : Option Value → (Nat → Nat → Int32) → (Nat → Int64) → Prop} {v1 : Int32} {v2 : Int32} {v3 : Int32} {s0 : Int32}  (K1 : (s0 = 0) → XS mX10_space 16 [] [] I L Q) (K2 : (¬ s0 = 0) → XS mX10_space 8 [(0, .ref 49), (1, .int v1), (2, .int v2), (3, .int v3)] [] I L Q) : XS mX10_space 5 [(0, .ref 49), (1, .int v1), (2, .int v2), (3, .int v3)] [.int s0] I L Q := by
  exact x_if_eq 16 dX10_space_5 (by decide) (fun h => x_sub [] rfl (K1 h)) (fun h => K2 h)
theorem bX10_space_8 {I : Nat → Nat → Int32} {L : Nat → Int64} {Q : Option Value → (Nat → Nat → Int32) → (Nat → Int64) → Prop} {v1 : Int32} {v2 : Int32} {v3 : Int32}  (K : XS mX10_isLink 0 [(0, .ref 49), (1, .int v2)] [] I L (fun r I' L' => XS mX10_space 13 [(0, .ref 49), (1, .int v1), (2, .int v2), (3, .int v3)] (r.toList ++ []) I' L' Q)) : XS mX10_space 8 [(0, .ref 49), (1, .int v1), (2, .int v2), (3, .int v3)] [] I L Q := by
  refine x_aload_n 0 dX10_space_8 rfl rfl ?_
  refine x_iload_n 2 dX10_space_9 rfl rfl ?_
  exact xs_callV mX10_isLink [.int v2] [] 49 10 1 _ rfl dX10_space_10 ml_X10_221 qX10_isLink rfl ⟨Nat.le_of_ble_eq_true rfl, Nat.le_of_ble_eq_true rfl⟩ ⟨rfl, rfl⟩ (Nat.le_of_ble_eq_true rfl) sh_49 (by decide) rfl (Nat.le_of_ble_eq_true rfl) (K)
theorem bX10_space_13 {I : Nat → Nat → Int32} {L : Nat → Int64} {Q : Option Value → (Nat → Nat → Int32) → (Nat → Int64) → Prop} {v1 : Int32} {v2 : Int32} {v3 : Int32} {s0 : Int32}  (K1 : (¬ s0 = 0) → XS mX10_space 19 [(0, .ref 49), (1, .int v1), (2, .int v2), (3, .int v3)] [] I L Q) (K2 : (s0 = 0) → XS mX10_space 16 [] [] I L Q) : XS mX10_space 13 [(0, .ref 49), (1, .int v1), (2, .int v2), (3, .int v3)] [.int s0] I L Q := by
  exact x_if_ne 19 dX10_space_13 (by decide) (fun h => K1 h) (fun h => x_sub [] rfl (K2 h))
theorem bX10_space_16 {I : Nat → Nat → Int32} {L : Nat → Int64} {Q : Option Value → (Nat → Nat → Int32) → (Nat → Int64) → Prop}   (K : Q (some (.int (-2 : Int32))) I L) : XS mX10_space 16 [] [] I L Q := by
  refine x_bipush (v := (-2 : Int32)) dX10_space_16 (by decide) ?_
  exact xs_iret dX10_space_18 rfl rfl K
theorem bX10_space_19 {I : Nat → Nat → Int32} {L : Nat → Int64} {Q : Option Value → (Nat → Nat → Int32) → (Nat → Int64) → Prop} {v1 : Int32} {v2 : Int32} {v3 : Int32}  (K : XS mX10_in 0 [(0, .int v3), (1, .int (0 : Int32)), (2, .int (1 : Int32))] [] I L (fun r I' L' => XS mX10_space 25 [(0, .ref 49), (1, .int v1), (2, .int v2), (3, .int v3)] (r.toList ++ []) I' L' Q)) : XS mX10_space 19 [(0, .ref 49), (1, .int v1), (2, .int v2), (3, .int v3)] [] I L Q := by
  refine x_iload_n 3 dX10_space_19 rfl rfl ?_
  refine x_iconst (v := (0 : Int32)) dX10_space_20 (by decide) ?_
  refine x_iconst (v := (1 : Int32)) dX10_space_21 (by decide) ?_
  exact xs_callS mX10_in [.int v3, .int (0 : Int32), .int (1 : Int32)] [] 3 _ rfl dX10_space_22 ml_X10_86 qX10_in rfl ⟨Nat.le_of_ble_eq_true rfl, Nat.le_of_ble_eq_true rfl⟩ ⟨rfl, rfl⟩ (Nat.le_of_ble_eq_true rfl) (Nat.le_of_ble_eq_true rfl) (K)
theorem bX10_space_25 {I : Nat → Nat → Int32} {L : Nat → Int64} {Q : Option Value → (Nat → Nat → Int32) → (Nat → Int64) → Prop} {v1 : Int32} {v2 : Int32} {v3 : Int32} {s0 : Int32}  (K1 : (¬ s0 = 0) → XS mX10_space 31 [(0, .ref 49), (1, .int v1), (2, .int v2), (3, .int v3)] [] I L Q) (K2 : (s0 = 0) → XS mX10_space 28 [] [] I L Q) : XS mX10_space 25 [(0, .ref 49), (1, .int v1), (2, .int v2), (3, .int v3)] [.int s0] I L Q := by
  exact x_if_ne 31 dX10_space_25 (by decide) (fun h => K1 h) (fun h => x_sub [] rfl (K2 h))
theorem bX10_space_28 {I : Nat → Nat → Int32} {L : Nat → Int64} {Q : Option Value → (Nat → Nat → Int32) → (Nat → Int64) → Prop}   (K : Q (some (.int (-3 : Int32))) I L) : XS mX10_space 28 [] [] I L Q := by
  refine x_bipush (v := (-3 : Int32)) dX10_space_28 (by decide) ?_
  exact xs_iret dX10_space_30 rfl rfl K
theorem bX10_space_31 {I : Nat → Nat → Int32} {L : Nat → Int64} {Q : Option Value → (Nat → Nat → Int32) → (Nat → Int64) → Prop} {v1 : Int32} {v2 : Int32} {v3 : Int32}  (K : XS mX10_space 37 [(0, .ref 49), (1, .int v1), (2, .int v2), (3, .int v3), (4, .int (0 : Int32)), (5, .int (0 : Int32))] [] I L Q) : XS mX10_space 31 [(0, .ref 49), (1, .int v1), (2, .int v2), (3, .int v3)] [] I L Q := by
  refine x_iconst (v := (0 : Int32)) dX10_space_31 (by decide) ?_
  refine x_istore [(0, .ref 49), (1, .int v1), (2, .int v2), (3, .int v3), (4, .int (0 : Int32))] dX10_space_32 (Nat.le_of_ble_eq_true rfl) rfl ?_
  refine x_iconst (v := (0 : Int32)) dX10_space_34 (by decide) ?_
  refine x_istore [(0, .ref 49), (1, .int v1), (2, .int v2), (3, .int v3), (4, .int (0 : Int32)), (5, .int (0 : Int32))] dX10_space_35 (Nat.le_of_ble_eq_true rfl) rfl ?_
  exact K
theorem bX10_space_37 {I : Nat → Nat → Int32} {L : Nat → Int64} {Q : Option Value → (Nat → Nat → Int32) → (Nat → Int64) → Prop} {v1 : Int32} {v2 : Int32} {v3 : Int32} {v4 : Int32} {v5 : Int32}  (K1 : ((I 3136 0) ≤ v5) → XS mX10_space 121 [(4, .int v4)] [] I L Q) (K2 : (¬ (I 3136 0) ≤ v5) → XS mX10_space 46 [(0, .ref 49), (1, .int v1), (2, .int v2), (3, .int v3), (4, .int v4), (5, .int v5)] [] I L Q) : XS mX10_space 37 [(0, .ref 49), (1, .int v1), (2, .int v2), (3, .int v3), (4, .int v4), (5, .int v5)] [] I L Q := by
  refine x_iload 5 dX10_space_37 rfl ?_
  refine x_aload_n 0 dX10_space_39 rfl rfl ?_
  refine xs_geti 3136 dX10_space_40 fl_X10_7 sh_49 rfl rfl ?_
  exact x_icmp_ge 121 dX10_space_43 (by decide) (fun h => x_sub [4] rfl (K1 h)) (fun h => K2 h)
theorem bX10_space_46 {I : Nat → Nat → Int32} {L : Nat → Int64} {Q : Option Value → (Nat → Nat → Int32) → (Nat → Int64) → Prop} {v1 : Int32} {v2 : Int32} {v3 : Int32} {v4 : Int32} {v5 : Int32}  (K1 : (¬ v3 = 0) → XS mX10_space 70 [(0, .ref 49), (1, .int v1), (2, .int v2), (3, .int v3), (4, .int v4), (5, .int v5)] [] I L Q) (K2 : (v3 = 0) → XS mX10_space 50 [(0, .ref 49), (1, .int v1), (2, .int v2), (3, .int v3), (4, .int v4), (5, .int v5)] [] I L Q) : XS mX10_space 46 [(0, .ref 49), (1, .int v1), (2, .int v2), (3, .int v3), (4, .int v4), (5, .int v5)] [] I L Q := by
  refine x_iload_n 3 dX10_space_46 rfl rfl ?_
  exact x_if_ne 70 dX10_space_47 (by decide) (fun h => K1 h) (fun h => K2 h)
theorem bX10_space_50 {I : Nat → Nat → Int32} {L : Nat → Int64} {Q : Option Value → (Nat → Nat → Int32) → (Nat → Int64) → Prop} {v1 : Int32} {v2 : Int32} {v3 : Int32} {v4 : Int32} {v5 : Int32} (hb1 : vp_in ((29 : Int32) + v1) 37) (K : XS mX10_walks 0 [(0, .ref 49), (1, .int v1), (2, .int v5), (3, .int (0 : Int32)), (4, .int (I 3392 (((29 : Int32) + v1).toNatClampNeg)))] [] I L (fun r I' L' => XS mX10_space 67 [(0, .ref 49), (1, .int v1), (2, .int v2), (3, .int v3), (4, .int v4), (5, .int v5)] (r.toList ++ []) I' L' Q)) : XS mX10_space 50 [(0, .ref 49), (1, .int v1), (2, .int v2), (3, .int v3), (4, .int v4), (5, .int v5)] [] I L Q := by
  refine x_aload_n 0 dX10_space_50 rfl rfl ?_
  refine x_iload_n 1 dX10_space_51 rfl rfl ?_
  refine x_iload 5 dX10_space_52 rfl ?_
  refine x_iconst (v := (0 : Int32)) dX10_space_54 (by decide) ?_
  refine x_aload_n 0 dX10_space_55 rfl rfl ?_
  refine xs_getr dX10_space_56 fl_X10_23 sh_49 rfl rf_3141 ?_
  refine x_bipush (v := (29 : Int32)) dX10_space_59 (by decide) ?_
  refine x_iload_n 1 dX10_space_61 rfl rfl ?_
  refine x_iadd dX10_space_62 ?_
  refine xs_iald 3392 (((29 : Int32) + v1).toNatClampNeg) dX10_space_63 sh_53 rfl rfl hb1 ?_
  exact xs_callV mX10_walks [.int v1, .int v5, .int (0 : Int32), .int (I 3392 (((29 : Int32) + v1).toNatClampNeg))] [] 49 10 4 _ rfl dX10_space_64 ml_X10_126 qX10_walks rfl ⟨Nat.le_of_ble_eq_true rfl, Nat.le_of_ble_eq_true rfl⟩ ⟨rfl, rfl⟩ (Nat.le_of_ble_eq_true rfl) sh_49 (by decide) rfl (Nat.le_of_ble_eq_true rfl) (K)
theorem bX10_space_67 {I : Nat → Nat → Int32} {L : Nat → Int64} {Q : Option Value → (Nat → Nat → Int32) → (Nat → Int64) → Prop} {v1 : Int32} {v2 : Int32} {v3 : Int32} {v4 : Int32} {v5 : Int32} {s0 : Int32}  (K : XS mX10_space 87 [(0, .ref 49), (1, .int v1), (2, .int v2), (3, .int v3), (4, .int v4), (5, .int v5)] [.int s0] I L Q) : XS mX10_space 67 [(0, .ref 49), (1, .int v1), (2, .int v2), (3, .int v3), (4, .int v4), (5, .int v5)] [.int s0] I L Q := by
  exact x_goto 87 dX10_space_67 (by decide) (K)
theorem bX10_space_70 {I : Nat → Nat → Int32} {L : Nat → Int64} {Q : Option Value → (Nat → Nat → Int32) → (Nat → Int64) → Prop} {v1 : Int32} {v2 : Int32} {v3 : Int32} {v4 : Int32} {v5 : Int32} (hb1 : vp_in ((29 : Int32) + v1) 37) (K : XS mX10_walks 0 [(0, .ref 49), (1, .int v5), (2, .int v1), (3, .int (0 : Int32)), (4, .int (I 3392 (((29 : Int32) + v1).toNatClampNeg)))] [] I L (fun r I' L' => XS mX10_space 87 [(0, .ref 49), (1, .int v1), (2, .int v2), (3, .int v3), (4, .int v4), (5, .int v5)] (r.toList ++ []) I' L' Q)) : XS mX10_space 70 [(0, .ref 49), (1, .int v1), (2, .int v2), (3, .int v3), (4, .int v4), (5, .int v5)] [] I L Q := by
  refine x_aload_n 0 dX10_space_70 rfl rfl ?_
  refine x_iload 5 dX10_space_71 rfl ?_
  refine x_iload_n 1 dX10_space_73 rfl rfl ?_
  refine x_iconst (v := (0 : Int32)) dX10_space_74 (by decide) ?_
  refine x_aload_n 0 dX10_space_75 rfl rfl ?_
  refine xs_getr dX10_space_76 fl_X10_23 sh_49 rfl rf_3141 ?_
  refine x_bipush (v := (29 : Int32)) dX10_space_79 (by decide) ?_
  refine x_iload_n 1 dX10_space_81 rfl rfl ?_
  refine x_iadd dX10_space_82 ?_
  refine xs_iald 3392 (((29 : Int32) + v1).toNatClampNeg) dX10_space_83 sh_53 rfl rfl hb1 ?_
  exact xs_callV mX10_walks [.int v5, .int v1, .int (0 : Int32), .int (I 3392 (((29 : Int32) + v1).toNatClampNeg))] [] 49 10 4 _ rfl dX10_space_84 ml_X10_126 qX10_walks rfl ⟨Nat.le_of_ble_eq_true rfl, Nat.le_of_ble_eq_true rfl⟩ ⟨rfl, rfl⟩ (Nat.le_of_ble_eq_true rfl) sh_49 (by decide) rfl (Nat.le_of_ble_eq_true rfl) (K)
theorem bX10_space_87 {I : Nat → Nat → Int32} {L : Nat → Int64} {Q : Option Value → (Nat → Nat → Int32) → (Nat → Int64) → Prop} {v1 : Int32} {v2 : Int32} {v3 : Int32} {v4 : Int32} {v5 : Int32} {s0 : Int32}  (K1 : (s0 = 0) → XS mX10_space 111 [(0, .ref 49), (1, .int v1), (2, .int v2), (3, .int v3), (5, .int v5)] [.int v4] I L Q) (K2 : (¬ s0 = 0) → XS mX10_space 96 [(0, .ref 49), (1, .int v1), (2, .int v2), (3, .int v3), (5, .int v5)] [.int v4] I L Q) : XS mX10_space 87 [(0, .ref 49), (1, .int v1), (2, .int v2), (3, .int v3), (4, .int v4), (5, .int v5)] [.int s0] I L Q := by
  refine x_istore [(0, .ref 49), (1, .int v1), (2, .int v2), (3, .int v3), (4, .int v4), (5, .int v5), (6, .int s0)] dX10_space_87 (Nat.le_of_ble_eq_true rfl) rfl ?_
  refine x_iload 4 dX10_space_89 rfl ?_
  refine x_iload 6 dX10_space_91 rfl ?_
  exact x_if_eq 111 dX10_space_93 (by decide) (fun h => x_sub [0, 1, 2, 3, 5] rfl (K1 h)) (fun h => x_sub [0, 1, 2, 3, 5] rfl (K2 h))
theorem bX10_space_96 {I : Nat → Nat → Int32} {L : Nat → Int64} {Q : Option Value → (Nat → Nat → Int32) → (Nat → Int64) → Prop} {v1 : Int32} {v2 : Int32} {v3 : Int32} {v5 : Int32} {s0 : Int32}  (K : XS mX10_isOver 0 [(0, .ref 49), (1, .int v2)] [] I L (fun r I' L' => XS mX10_space 101 [(0, .ref 49), (1, .int v1), (2, .int v2), (3, .int v3), (5, .int v5)] (r.toList ++ [.int s0]) I' L' Q)) : XS mX10_space 96 [(0, .ref 49), (1, .int v1), (2, .int v2), (3, .int v3), (5, .int v5)] [.int s0] I L Q := by
  refine x_aload_n 0 dX10_space_96 rfl rfl ?_
  refine x_iload_n 2 dX10_space_97 rfl rfl ?_
  exact xs_callV mX10_isOver [.int v2] [.int s0] 49 10 1 _ rfl dX10_space_98 ml_X10_237 qX10_isOver rfl ⟨Nat.le_of_ble_eq_true rfl, Nat.le_of_ble_eq_true rfl⟩ ⟨rfl, rfl⟩ (Nat.le_of_ble_eq_true rfl) sh_49 (by decide) rfl (Nat.le_of_ble_eq_true rfl) (K)
theorem bX10_space_101 {I : Nat → Nat → Int32} {L : Nat → Int64} {Q : Option Value → (Nat → Nat → Int32) → (Nat → Int64) → Prop} {v1 : Int32} {v2 : Int32} {v3 : Int32} {v5 : Int32} {s0 : Int32} {s1 : Int32}  (K1 : (¬ s1 = 0) → XS mX10_space 111 [(0, .ref 49), (1, .int v1), (2, .int v2), (3, .int v3), (5, .int v5)] [.int s0] I L Q) (K2 : (s1 = 0) → XS mX10_space 104 [(0, .ref 49), (1, .int v1), (2, .int v2), (3, .int v3), (5, .int v5)] [.int s0] I L Q) : XS mX10_space 101 [(0, .ref 49), (1, .int v1), (2, .int v2), (3, .int v3), (5, .int v5)] [.int s1, .int s0] I L Q := by
  exact x_if_ne 111 dX10_space_101 (by decide) (fun h => K1 h) (fun h => K2 h)
theorem bX10_space_104 {I : Nat → Nat → Int32} {L : Nat → Int64} {Q : Option Value → (Nat → Nat → Int32) → (Nat → Int64) → Prop} {v1 : Int32} {v2 : Int32} {v3 : Int32} {v5 : Int32} {s0 : Int32}  (K : XS mX10_space 112 [(0, .ref 49), (1, .int v1), (2, .int v2), (3, .int v3), (5, .int v5)] [.int ((1 : Int32) <<< (v5 &&& 31)), .int s0] I L Q) : XS mX10_space 104 [(0, .ref 49), (1, .int v1), (2, .int v2), (3, .int v3), (5, .int v5)] [.int s0] I L Q := by
  refine x_iconst (v := (1 : Int32)) dX10_space_104 (by decide) ?_
  refine x_iload 4 dX10_space_105 rfl ?_
  refine x_ishl dX10_space_107 ?_
  exact x_goto 112 dX10_space_108 (by decide) (K)
theorem bX10_space_111 {I : Nat → Nat → Int32} {L : Nat → Int64} {Q : Option Value → (Nat → Nat → Int32) → (Nat → Int64) → Prop} {v1 : Int32} {v2 : Int32} {v3 : Int32} {v5 : Int32} {s0 : Int32}  (K : XS mX10_space 112 [(0, .ref 49), (1, .int v1), (2, .int v2), (3, .int v3), (5, .int v5)] [.int (0 : Int32), .int s0] I L Q) : XS mX10_space 111 [(0, .ref 49), (1, .int v1), (2, .int v2), (3, .int v3), (5, .int v5)] [.int s0] I L Q := by
  refine x_iconst (v := (0 : Int32)) dX10_space_111 (by decide) ?_
  exact K
theorem bX10_space_112 {I : Nat → Nat → Int32} {L : Nat → Int64} {Q : Option Value → (Nat → Nat → Int32) → (Nat → Int64) → Prop} {v1 : Int32} {v2 : Int32} {v3 : Int32} {v5 : Int32} {s0 : Int32} {s1 : Int32}  (K : XS mX10_space 37 [(0, .ref 49), (1, .int v1), (2, .int v2), (3, .int v3), (4, .int (s0 ||| s1)), (5, .int (v5 + (1 : Int32)))] [] I L Q) : XS mX10_space 112 [(0, .ref 49), (1, .int v1), (2, .int v2), (3, .int v3), (5, .int v5)] [.int s1, .int s0] I L Q := by
  refine x_ior dX10_space_112 ?_
  refine x_istore [(0, .ref 49), (1, .int v1), (2, .int v2), (3, .int v3), (4, .int (s0 ||| s1)), (5, .int v5)] dX10_space_113 (Nat.le_of_ble_eq_true rfl) rfl ?_
  refine x_iinc 5 (v5 + (1 : Int32)) [(0, .ref 49), (1, .int v1), (2, .int v2), (3, .int v3), (4, .int (s0 ||| s1)), (5, .int (v5 + (1 : Int32)))] dX10_space_115 rfl rfl (Nat.le_of_ble_eq_true rfl) rfl ?_
  exact x_goto 37 dX10_space_118 (by decide) (K)
theorem bX10_space_121 {I : Nat → Nat → Int32} {L : Nat → Int64} {Q : Option Value → (Nat → Nat → Int32) → (Nat → Int64) → Prop} {v4 : Int32}  (K : Q (some (.int v4)) I L) : XS mX10_space 121 [(4, .int v4)] [] I L Q := by
  refine x_iload 0 dX10_space_121 rfl ?_
  exact xs_iret dX10_space_123 rfl rfl K
theorem bX10_laysGoes_0 {I : Nat → Nat → Int32} {L : Nat → Int64} {Q : Option Value → (Nat → Nat → Int32) → (Nat → Int64) → Prop}   (K : XS mX10_laysGoes 2 [(0, .ref 49), (1, .int (0 : Int32))] [] I L Q) : XS mX10_laysGoes 0 [(0, .ref 49)] [] I L Q := by
  refine x_iconst (v := (0 : Int32)) dX10_laysGoes_0 (by decide) ?_
  refine x_istore_n [(0, .ref 49), (1, .int (0 : Int32))] dX10_laysGoes_1 rfl (Nat.le_of_ble_eq_true rfl) rfl ?_
  exact K
theorem bX10_laysGoes_2 {I : Nat → Nat → Int32} {L : Nat → Int64} {Q : Option Value → (Nat → Nat → Int32) → (Nat → Int64) → Prop} {v1 : Int32}  (K1 : ((I 3136 0) ≤ v1) → XS mX10_laysGoes 73 [(0, .ref 49)] [] I L Q) (K2 : (¬ (I 3136 0) ≤ v1) → XS mX10_laysGoes 10 [(0, .ref 49), (1, .int v1)] [] I L Q) : XS mX10_laysGoes 2 [(0, .ref 49), (1, .int v1)] [] I L Q := by
  refine x_iload_n 1 dX10_laysGoes_2 rfl rfl ?_
  refine x_aload_n 0 dX10_laysGoes_3 rfl rfl ?_
  refine xs_geti 3136 dX10_laysGoes_4 fl_X10_7 sh_49 rfl rfl ?_
  exact x_icmp_ge 73 dX10_laysGoes_7 (by decide) (fun h => x_sub [0] rfl (K1 h)) (fun h => K2 h)
theorem bX10_laysGoes_10 {I : Nat → Nat → Int32} {L : Nat → Int64} {Q : Option Value → (Nat → Nat → Int32) → (Nat → Int64) → Prop} {v1 : Int32} (hb1 : vp_in ((29 : Int32) + v1) 37) (K : XS mX10_lays 0 [(0, .ref 49), (1, .int (0 : Int32)), (2, .int (I 3392 (((29 : Int32) + v1).toNatClampNeg)))] [] I L (fun r I' L' => XS mX10_laysGoes 24 [(0, .ref 49), (1, .int v1)] (r.toList ++ []) I' L' Q)) : XS mX10_laysGoes 10 [(0, .ref 49), (1, .int v1)] [] I L Q := by
  refine x_aload_n 0 dX10_laysGoes_10 rfl rfl ?_
  refine x_iconst (v := (0 : Int32)) dX10_laysGoes_11 (by decide) ?_
  refine x_aload_n 0 dX10_laysGoes_12 rfl rfl ?_
  refine xs_getr dX10_laysGoes_13 fl_X10_23 sh_49 rfl rf_3141 ?_
  refine x_bipush (v := (29 : Int32)) dX10_laysGoes_16 (by decide) ?_
  refine x_iload_n 1 dX10_laysGoes_18 rfl rfl ?_
  refine x_iadd dX10_laysGoes_19 ?_
  refine xs_iald 3392 (((29 : Int32) + v1).toNatClampNeg) dX10_laysGoes_20 sh_53 rfl rfl hb1 ?_
  exact xs_callV mX10_lays [.int (0 : Int32), .int (I 3392 (((29 : Int32) + v1).toNatClampNeg))] [] 49 10 2 _ rfl dX10_laysGoes_21 ml_X10_104 qX10_lays rfl ⟨Nat.le_of_ble_eq_true rfl, Nat.le_of_ble_eq_true rfl⟩ ⟨rfl, rfl⟩ (Nat.le_of_ble_eq_true rfl) sh_49 (by decide) rfl (Nat.le_of_ble_eq_true rfl) (K)
theorem bX10_laysGoes_24 {I : Nat → Nat → Int32} {L : Nat → Int64} {Q : Option Value → (Nat → Nat → Int32) → (Nat → Int64) → Prop} {v1 : Int32}  (K : XS mX10_laysGoes 26 [(0, .ref 49), (1, .int v1), (2, .int (0 : Int32))] [] I L Q) : XS mX10_laysGoes 24 [(0, .ref 49), (1, .int v1)] [] I L Q := by
  refine x_iconst (v := (0 : Int32)) dX10_laysGoes_24 (by decide) ?_
  refine x_istore_n [(0, .ref 49), (1, .int v1), (2, .int (0 : Int32))] dX10_laysGoes_25 rfl (Nat.le_of_ble_eq_true rfl) rfl ?_
  exact K
theorem bX10_laysGoes_26 {I : Nat → Nat → Int32} {L : Nat → Int64} {Q : Option Value → (Nat → Nat → Int32) → (Nat → Int64) → Prop} {v1 : Int32} {v2 : Int32}  (K1 : ((I 3136 0) ≤ v2) → XS mX10_laysGoes 67 [(0, .ref 49), (1, .int v1)] [] I L Q) (K2 : (¬ (I 3136 0) ≤ v2) → XS mX10_laysGoes 34 [(0, .ref 49), (1, .int v1), (2, .int v2)] [] I L Q) : XS mX10_laysGoes 26 [(0, .ref 49), (1, .int v1), (2, .int v2)] [] I L Q := by
  refine x_iload_n 2 dX10_laysGoes_26 rfl rfl ?_
  refine x_aload_n 0 dX10_laysGoes_27 rfl rfl ?_
  refine xs_geti 3136 dX10_laysGoes_28 fl_X10_7 sh_49 rfl rfl ?_
  exact x_icmp_ge 67 dX10_laysGoes_31 (by decide) (fun h => x_sub [0, 1] rfl (K1 h)) (fun h => K2 h)
theorem bX10_laysGoes_34 {I : Nat → Nat → Int32} {L : Nat → Int64} {Q : Option Value → (Nat → Nat → Int32) → (Nat → Int64) → Prop} {v1 : Int32} {v2 : Int32} (hb1 : vp_in ((29 : Int32) + v1) 37) (K : XS mX10_nextOf 0 [(0, .ref 49), (1, .int v1), (2, .int v2), (3, .int (0 : Int32)), (4, .int (I 3392 (((29 : Int32) + v1).toNatClampNeg)))] [] I L (fun r I' L' => XS mX10_laysGoes 60 [(0, .ref 49), (1, .int v1), (2, .int v2)] (r.toList ++ [.int (((8 : Int32) * v1) + v2), .ref 67]) I' L' Q)) : XS mX10_laysGoes 34 [(0, .ref 49), (1, .int v1), (2, .int v2)] [] I L Q := by
  refine x_aload_n 0 dX10_laysGoes_34 rfl rfl ?_
  refine xs_getr dX10_laysGoes_35 fl_X10_65 sh_49 rfl rf_3168 ?_
  refine x_bipush (v := (8 : Int32)) dX10_laysGoes_38 (by decide) ?_
  refine x_iload_n 1 dX10_laysGoes_40 rfl rfl ?_
  refine x_imul dX10_laysGoes_41 ?_
  refine x_iload_n 2 dX10_laysGoes_42 rfl rfl ?_
  refine x_iadd dX10_laysGoes_43 ?_
  refine x_aload_n 0 dX10_laysGoes_44 rfl rfl ?_
  refine x_iload_n 1 dX10_laysGoes_45 rfl rfl ?_
  refine x_iload_n 2 dX10_laysGoes_46 rfl rfl ?_
  refine x_iconst (v := (0 : Int32)) dX10_laysGoes_47 (by decide) ?_
  refine x_aload_n 0 dX10_laysGoes_48 rfl rfl ?_
  refine xs_getr dX10_laysGoes_49 fl_X10_23 sh_49 rfl rf_3141 ?_
  refine x_bipush (v := (29 : Int32)) dX10_laysGoes_52 (by decide) ?_
  refine x_iload_n 1 dX10_laysGoes_54 rfl rfl ?_
  refine x_iadd dX10_laysGoes_55 ?_
  refine xs_iald 3392 (((29 : Int32) + v1).toNatClampNeg) dX10_laysGoes_56 sh_53 rfl rfl hb1 ?_
  exact xs_callV mX10_nextOf [.int v1, .int v2, .int (0 : Int32), .int (I 3392 (((29 : Int32) + v1).toNatClampNeg))] [.int (((8 : Int32) * v1) + v2), .ref 67] 49 10 4 _ rfl dX10_laysGoes_57 ml_X10_111 qX10_nextOf rfl ⟨Nat.le_of_ble_eq_true rfl, Nat.le_of_ble_eq_true rfl⟩ ⟨rfl, rfl⟩ (Nat.le_of_ble_eq_true rfl) sh_49 (by decide) rfl (Nat.le_of_ble_eq_true rfl) (K)
theorem bX10_laysGoes_60 {I : Nat → Nat → Int32} {L : Nat → Int64} {Q : Option Value → (Nat → Nat → Int32) → (Nat → Int64) → Prop} {v1 : Int32} {v2 : Int32} {s1 : Int32} {s2 : Int32} (hb1 : vp_in s1 64) (K : XS mX10_laysGoes 26 [(0, .ref 49), (1, .int v1), (2, .int (v2 + (1 : Int32)))] [] (x_up I 4288 (s1.toNatClampNeg) s2) L Q) : XS mX10_laysGoes 60 [(0, .ref 49), (1, .int v1), (2, .int v2)] [.int s2, .int s1, .ref 67] I L Q := by
  refine xs_iast 4288 (s1.toNatClampNeg) dX10_laysGoes_60 sh_67 rfl rfl hb1 ?_
  refine x_iinc 2 (v2 + (1 : Int32)) [(0, .ref 49), (1, .int v1), (2, .int (v2 + (1 : Int32)))] dX10_laysGoes_61 rfl rfl (Nat.le_of_ble_eq_true rfl) rfl ?_
  exact x_goto 26 dX10_laysGoes_64 (by decide) (K)
theorem bX10_laysGoes_67 {I : Nat → Nat → Int32} {L : Nat → Int64} {Q : Option Value → (Nat → Nat → Int32) → (Nat → Int64) → Prop} {v1 : Int32}  (K : XS mX10_laysGoes 2 [(0, .ref 49), (1, .int (v1 + (1 : Int32)))] [] I L Q) : XS mX10_laysGoes 67 [(0, .ref 49), (1, .int v1)] [] I L Q := by
  refine x_iinc 1 (v1 + (1 : Int32)) [(0, .ref 49), (1, .int (v1 + (1 : Int32)))] dX10_laysGoes_67 rfl rfl (Nat.le_of_ble_eq_true rfl) rfl ?_
  exact x_goto 2 dX10_laysGoes_70 (by decide) (K)
theorem bX10_laysGoes_73 {I : Nat → Nat → Int32} {L : Nat → Int64} {Q : Option Value → (Nat → Nat → Int32) → (Nat → Int64) → Prop}   (K : XS mX10_lays 0 [(0, .ref 49), (1, .int (0 : Int32)), (2, .int (I 3392 28))] [] I L (fun r I' L' => XS mX10_laysGoes 85 [(0, .ref 49)] (r.toList ++ []) I' L' Q)) : XS mX10_laysGoes 73 [(0, .ref 49)] [] I L Q := by
  refine x_aload_n 0 dX10_laysGoes_73 rfl rfl ?_
  refine x_iconst (v := (0 : Int32)) dX10_laysGoes_74 (by decide) ?_
  refine x_aload_n 0 dX10_laysGoes_75 rfl rfl ?_
  refine xs_getr dX10_laysGoes_76 fl_X10_23 sh_49 rfl rf_3141 ?_
  refine x_bipush (v := (28 : Int32)) dX10_laysGoes_79 (by decide) ?_
  refine xs_iald 3392 (28) dX10_laysGoes_81 sh_53 rfl (by decide) (x_vpin (by decide)) ?_
  exact xs_callV mX10_lays [.int (0 : Int32), .int (I 3392 28)] [] 49 10 2 _ rfl dX10_laysGoes_82 ml_X10_104 qX10_lays rfl ⟨Nat.le_of_ble_eq_true rfl, Nat.le_of_ble_eq_true rfl⟩ ⟨rfl, rfl⟩ (Nat.le_of_ble_eq_true rfl) sh_49 (by decide) rfl (Nat.le_of_ble_eq_true rfl) (K)
theorem bX10_laysGoes_85 {I : Nat → Nat → Int32} {L : Nat → Int64} {Q : Option Value → (Nat → Nat → Int32) → (Nat → Int64) → Prop}   (K : XS mX10_laysGoes 87 [(0, .ref 49), (1, .int (0 : Int32))] [] I L Q) : XS mX10_laysGoes 85 [(0, .ref 49)] [] I L Q := by
  refine x_iconst (v := (0 : Int32)) dX10_laysGoes_85 (by decide) ?_
  refine x_istore_n [(0, .ref 49), (1, .int (0 : Int32))] dX10_laysGoes_86 rfl (Nat.le_of_ble_eq_true rfl) rfl ?_
  exact K
theorem bX10_laysGoes_87 {I : Nat → Nat → Int32} {L : Nat → Int64} {Q : Option Value → (Nat → Nat → Int32) → (Nat → Int64) → Prop} {v1 : Int32}  (K1 : ((I 3136 0) ≤ v1) → XS mX10_laysGoes 142 [] [] I L Q) (K2 : (¬ (I 3136 0) ≤ v1) → XS mX10_laysGoes 95 [(0, .ref 49), (1, .int v1)] [] I L Q) : XS mX10_laysGoes 87 [(0, .ref 49), (1, .int v1)] [] I L Q := by
  refine x_iload_n 1 dX10_laysGoes_87 rfl rfl ?_
  refine x_aload_n 0 dX10_laysGoes_88 rfl rfl ?_
  refine xs_geti 3136 dX10_laysGoes_89 fl_X10_7 sh_49 rfl rfl ?_
  exact x_icmp_ge 142 dX10_laysGoes_92 (by decide) (fun h => x_sub [] rfl (K1 h)) (fun h => K2 h)
theorem bX10_laysGoes_95 {I : Nat → Nat → Int32} {L : Nat → Int64} {Q : Option Value → (Nat → Nat → Int32) → (Nat → Int64) → Prop} {v1 : Int32}  (K : XS mX10_laysGoes 97 [(0, .ref 49), (1, .int v1), (2, .int (0 : Int32))] [] I L Q) : XS mX10_laysGoes 95 [(0, .ref 49), (1, .int v1)] [] I L Q := by
  refine x_iconst (v := (0 : Int32)) dX10_laysGoes_95 (by decide) ?_
  refine x_istore_n [(0, .ref 49), (1, .int v1), (2, .int (0 : Int32))] dX10_laysGoes_96 rfl (Nat.le_of_ble_eq_true rfl) rfl ?_
  exact K
theorem bX10_laysGoes_97 {I : Nat → Nat → Int32} {L : Nat → Int64} {Q : Option Value → (Nat → Nat → Int32) → (Nat → Int64) → Prop} {v1 : Int32} {v2 : Int32}  (K1 : ((I 3136 0) ≤ v2) → XS mX10_laysGoes 136 [(0, .ref 49), (1, .int v1)] [] I L Q) (K2 : (¬ (I 3136 0) ≤ v2) → XS mX10_laysGoes 105 [(0, .ref 49), (1, .int v1), (2, .int v2)] [] I L Q) : XS mX10_laysGoes 97 [(0, .ref 49), (1, .int v1), (2, .int v2)] [] I L Q := by
  refine x_iload_n 2 dX10_laysGoes_97 rfl rfl ?_
  refine x_aload_n 0 dX10_laysGoes_98 rfl rfl ?_
  refine xs_geti 3136 dX10_laysGoes_99 fl_X10_7 sh_49 rfl rfl ?_
  exact x_icmp_ge 136 dX10_laysGoes_102 (by decide) (fun h => x_sub [0, 1] rfl (K1 h)) (fun h => K2 h)
theorem bX10_laysGoes_105 {I : Nat → Nat → Int32} {L : Nat → Int64} {Q : Option Value → (Nat → Nat → Int32) → (Nat → Int64) → Prop} {v1 : Int32} {v2 : Int32}  (K : XS mX10_nextOf 0 [(0, .ref 49), (1, .int v1), (2, .int v2), (3, .int (0 : Int32)), (4, .int (I 3392 28))] [] I L (fun r I' L' => XS mX10_laysGoes 129 [(0, .ref 49), (1, .int v1), (2, .int v2)] (r.toList ++ [.int (((8 : Int32) * v1) + v2), .ref 68]) I' L' Q)) : XS mX10_laysGoes 105 [(0, .ref 49), (1, .int v1), (2, .int v2)] [] I L Q := by
  refine x_aload_n 0 dX10_laysGoes_105 rfl rfl ?_
  refine xs_getr dX10_laysGoes_106 fl_X10_68 sh_49 rfl rf_3169 ?_
  refine x_bipush (v := (8 : Int32)) dX10_laysGoes_109 (by decide) ?_
  refine x_iload_n 1 dX10_laysGoes_111 rfl rfl ?_
  refine x_imul dX10_laysGoes_112 ?_
  refine x_iload_n 2 dX10_laysGoes_113 rfl rfl ?_
  refine x_iadd dX10_laysGoes_114 ?_
  refine x_aload_n 0 dX10_laysGoes_115 rfl rfl ?_
  refine x_iload_n 1 dX10_laysGoes_116 rfl rfl ?_
  refine x_iload_n 2 dX10_laysGoes_117 rfl rfl ?_
  refine x_iconst (v := (0 : Int32)) dX10_laysGoes_118 (by decide) ?_
  refine x_aload_n 0 dX10_laysGoes_119 rfl rfl ?_
  refine xs_getr dX10_laysGoes_120 fl_X10_23 sh_49 rfl rf_3141 ?_
  refine x_bipush (v := (28 : Int32)) dX10_laysGoes_123 (by decide) ?_
  refine xs_iald 3392 (28) dX10_laysGoes_125 sh_53 rfl (by decide) (x_vpin (by decide)) ?_
  exact xs_callV mX10_nextOf [.int v1, .int v2, .int (0 : Int32), .int (I 3392 28)] [.int (((8 : Int32) * v1) + v2), .ref 68] 49 10 4 _ rfl dX10_laysGoes_126 ml_X10_111 qX10_nextOf rfl ⟨Nat.le_of_ble_eq_true rfl, Nat.le_of_ble_eq_true rfl⟩ ⟨rfl, rfl⟩ (Nat.le_of_ble_eq_true rfl) sh_49 (by decide) rfl (Nat.le_of_ble_eq_true rfl) (K)
theorem bX10_laysGoes_129 {I : Nat → Nat → Int32} {L : Nat → Int64} {Q : Option Value → (Nat → Nat → Int32) → (Nat → Int64) → Prop} {v1 : Int32} {v2 : Int32} {s1 : Int32} {s2 : Int32} (hb1 : vp_in s1 64) (K : XS mX10_laysGoes 97 [(0, .ref 49), (1, .int v1), (2, .int (v2 + (1 : Int32)))] [] (x_up I 4352 (s1.toNatClampNeg) s2) L Q) : XS mX10_laysGoes 129 [(0, .ref 49), (1, .int v1), (2, .int v2)] [.int s2, .int s1, .ref 68] I L Q := by
  refine xs_iast 4352 (s1.toNatClampNeg) dX10_laysGoes_129 sh_68 rfl rfl hb1 ?_
  refine x_iinc 2 (v2 + (1 : Int32)) [(0, .ref 49), (1, .int v1), (2, .int (v2 + (1 : Int32)))] dX10_laysGoes_130 rfl rfl (Nat.le_of_ble_eq_true rfl) rfl ?_
  exact x_goto 97 dX10_laysGoes_133 (by decide) (K)
theorem bX10_laysGoes_136 {I : Nat → Nat → Int32} {L : Nat → Int64} {Q : Option Value → (Nat → Nat → Int32) → (Nat → Int64) → Prop} {v1 : Int32}  (K : XS mX10_laysGoes 87 [(0, .ref 49), (1, .int (v1 + (1 : Int32)))] [] I L Q) : XS mX10_laysGoes 136 [(0, .ref 49), (1, .int v1)] [] I L Q := by
  refine x_iinc 1 (v1 + (1 : Int32)) [(0, .ref 49), (1, .int (v1 + (1 : Int32)))] dX10_laysGoes_136 rfl rfl (Nat.le_of_ble_eq_true rfl) rfl ?_
  exact x_goto 87 dX10_laysGoes_139 (by decide) (K)
theorem bX10_laysGoes_142 {I : Nat → Nat → Int32} {L : Nat → Int64} {Q : Option Value → (Nat → Nat → Int32) → (Nat → Int64) → Prop}   (K : Q none I L) : XS mX10_laysGoes 142 [] [] I L Q := by
  exact xs_end dX10_laysGoes_142 rfl K
theorem bX10_ringsOf_0 {I : Nat → Nat → Int32} {L : Nat → Int64} {Q : Option Value → (Nat → Nat → Int32) → (Nat → Int64) → Prop} {v1 : Int32} {v2 : Int32}  (K : XS mX10_ringsOf 5 [(0, .ref 49), (1, .int v1), (2, .int v2), (3, .int (0 : Int32)), (4, .int (0 : Int32))] [] I L Q) : XS mX10_ringsOf 0 [(0, .ref 49), (1, .int v1), (2, .int v2)] [] I L Q := by
  refine x_iconst (v := (0 : Int32)) dX10_ringsOf_0 (by decide) ?_
  refine x_istore_n [(0, .ref 49), (1, .int v1), (2, .int v2), (3, .int (0 : Int32))] dX10_ringsOf_1 rfl (Nat.le_of_ble_eq_true rfl) rfl ?_
  refine x_iconst (v := (0 : Int32)) dX10_ringsOf_2 (by decide) ?_
  refine x_istore [(0, .ref 49), (1, .int v1), (2, .int v2), (3, .int (0 : Int32)), (4, .int (0 : Int32))] dX10_ringsOf_3 (Nat.le_of_ble_eq_true rfl) rfl ?_
  exact K
theorem bX10_ringsOf_5 {I : Nat → Nat → Int32} {L : Nat → Int64} {Q : Option Value → (Nat → Nat → Int32) → (Nat → Int64) → Prop} {v1 : Int32} {v2 : Int32} {v3 : Int32} {v4 : Int32}  (K1 : ((I 3136 0) ≤ v4) → XS mX10_ringsOf 122 [(3, .int v3)] [] I L Q) (K2 : (¬ (I 3136 0) ≤ v4) → XS mX10_ringsOf 14 [(0, .ref 49), (1, .int v1), (2, .int v2), (3, .int v3), (4, .int v4)] [] I L Q) : XS mX10_ringsOf 5 [(0, .ref 49), (1, .int v1), (2, .int v2), (3, .int v3), (4, .int v4)] [] I L Q := by
  refine x_iload 4 dX10_ringsOf_5 rfl ?_
  refine x_aload_n 0 dX10_ringsOf_7 rfl rfl ?_
  refine xs_geti 3136 dX10_ringsOf_8 fl_X10_7 sh_49 rfl rfl ?_
  exact x_icmp_ge 122 dX10_ringsOf_11 (by decide) (fun h => x_sub [3] rfl (K1 h)) (fun h => K2 h)
theorem bX10_ringsOf_14 {I : Nat → Nat → Int32} {L : Nat → Int64} {Q : Option Value → (Nat → Nat → Int32) → (Nat → Int64) → Prop} {v1 : Int32} {v2 : Int32} {v3 : Int32} {v4 : Int32}  (K : XS mX10_ringsOf 21 [(0, .ref 49), (1, .int v1), (2, .int v2), (3, .int v3), (4, .int v4), (5, .int v4), (6, .int (0 : Int32))] [] I L Q) : XS mX10_ringsOf 14 [(0, .ref 49), (1, .int v1), (2, .int v2), (3, .int v3), (4, .int v4)] [] I L Q := by
  refine x_iload 4 dX10_ringsOf_14 rfl ?_
  refine x_istore [(0, .ref 49), (1, .int v1), (2, .int v2), (3, .int v3), (4, .int v4), (5, .int v4)] dX10_ringsOf_16 (Nat.le_of_ble_eq_true rfl) rfl ?_
  refine x_iconst (v := (0 : Int32)) dX10_ringsOf_18 (by decide) ?_
  refine x_istore [(0, .ref 49), (1, .int v1), (2, .int v2), (3, .int v3), (4, .int v4), (5, .int v4), (6, .int (0 : Int32))] dX10_ringsOf_19 (Nat.le_of_ble_eq_true rfl) rfl ?_
  exact K
theorem bX10_ringsOf_21 {I : Nat → Nat → Int32} {L : Nat → Int64} {Q : Option Value → (Nat → Nat → Int32) → (Nat → Int64) → Prop} {v1 : Int32} {v2 : Int32} {v3 : Int32} {v4 : Int32} {v5 : Int32} {v6 : Int32}  (K1 : (v5 = (-1 : Int32)) → XS mX10_ringsOf 93 [(0, .ref 49), (1, .int v1), (2, .int v2), (3, .int v3), (4, .int v4), (5, .int v5)] [] I L Q) (K2 : (¬ v5 = (-1 : Int32)) → XS mX10_ringsOf 27 [(0, .ref 49), (1, .int v1), (2, .int v2), (3, .int v3), (4, .int v4), (5, .int v5), (6, .int v6)] [] I L Q) : XS mX10_ringsOf 21 [(0, .ref 49), (1, .int v1), (2, .int v2), (3, .int v3), (4, .int v4), (5, .int v5), (6, .int v6)] [] I L Q := by
  refine x_iload 5 dX10_ringsOf_21 rfl ?_
  refine x_iconst (v := (-1 : Int32)) dX10_ringsOf_23 (by decide) ?_
  exact x_icmp_eq 93 dX10_ringsOf_24 (by decide) (fun h => x_sub [0, 1, 2, 3, 4, 5] rfl (K1 h)) (fun h => K2 h)
theorem bX10_ringsOf_27 {I : Nat → Nat → Int32} {L : Nat → Int64} {Q : Option Value → (Nat → Nat → Int32) → (Nat → Int64) → Prop} {v1 : Int32} {v2 : Int32} {v3 : Int32} {v4 : Int32} {v5 : Int32} {v6 : Int32}  (K1 : (v5 = v1) → XS mX10_ringsOf 93 [(0, .ref 49), (1, .int v1), (2, .int v2), (3, .int v3), (4, .int v4), (5, .int v5)] [] I L Q) (K2 : (¬ v5 = v1) → XS mX10_ringsOf 33 [(0, .ref 49), (1, .int v1), (2, .int v2), (3, .int v3), (4, .int v4), (5, .int v5), (6, .int v6)] [] I L Q) : XS mX10_ringsOf 27 [(0, .ref 49), (1, .int v1), (2, .int v2), (3, .int v3), (4, .int v4), (5, .int v5), (6, .int v6)] [] I L Q := by
  refine x_iload 5 dX10_ringsOf_27 rfl ?_
  refine x_iload_n 1 dX10_ringsOf_29 rfl rfl ?_
  exact x_icmp_eq 93 dX10_ringsOf_30 (by decide) (fun h => x_sub [0, 1, 2, 3, 4, 5] rfl (K1 h)) (fun h => K2 h)
theorem bX10_ringsOf_33 {I : Nat → Nat → Int32} {L : Nat → Int64} {Q : Option Value → (Nat → Nat → Int32) → (Nat → Int64) → Prop} {v1 : Int32} {v2 : Int32} {v3 : Int32} {v4 : Int32} {v5 : Int32} {v6 : Int32}  (K : XS mX10_has 0 [(0, .int v6), (1, .int v5)] [] I L (fun r I' L' => XS mX10_ringsOf 40 [(0, .ref 49), (1, .int v1), (2, .int v2), (3, .int v3), (4, .int v4), (5, .int v5), (6, .int v6)] (r.toList ++ []) I' L' Q)) : XS mX10_ringsOf 33 [(0, .ref 49), (1, .int v1), (2, .int v2), (3, .int v3), (4, .int v4), (5, .int v5), (6, .int v6)] [] I L Q := by
  refine x_iload 6 dX10_ringsOf_33 rfl ?_
  refine x_iload 5 dX10_ringsOf_35 rfl ?_
  exact xs_callS mX10_has [.int v6, .int v5] [] 2 _ rfl dX10_ringsOf_37 ml_X10_93 qX10_has rfl ⟨Nat.le_of_ble_eq_true rfl, Nat.le_of_ble_eq_true rfl⟩ ⟨rfl, rfl⟩ (Nat.le_of_ble_eq_true rfl) (Nat.le_of_ble_eq_true rfl) (K)
theorem bX10_ringsOf_40 {I : Nat → Nat → Int32} {L : Nat → Int64} {Q : Option Value → (Nat → Nat → Int32) → (Nat → Int64) → Prop} {v1 : Int32} {v2 : Int32} {v3 : Int32} {v4 : Int32} {v5 : Int32} {v6 : Int32} {s0 : Int32}  (K1 : (¬ s0 = 0) → XS mX10_ringsOf 93 [(0, .ref 49), (1, .int v1), (2, .int v2), (3, .int v3), (4, .int v4), (5, .int v5)] [] I L Q) (K2 : (s0 = 0) → XS mX10_ringsOf 43 [(0, .ref 49), (1, .int v1), (2, .int v2), (3, .int v3), (4, .int v4), (5, .int v5), (6, .int v6)] [] I L Q) : XS mX10_ringsOf 40 [(0, .ref 49), (1, .int v1), (2, .int v2), (3, .int v3), (4, .int v4), (5, .int v5), (6, .int v6)] [.int s0] I L Q := by
  exact x_if_ne 93 dX10_ringsOf_40 (by decide) (fun h => x_sub [0, 1, 2, 3, 4, 5] rfl (K1 h)) (fun h => K2 h)
theorem bX10_ringsOf_43 {I : Nat → Nat → Int32} {L : Nat → Int64} {Q : Option Value → (Nat → Nat → Int32) → (Nat → Int64) → Prop} {v1 : Int32} {v2 : Int32} {v3 : Int32} {v4 : Int32} {v5 : Int32} {v6 : Int32}  (K : XS mX10_has 0 [(0, .int v2), (1, .int v5)] [] I L (fun r I' L' => XS mX10_ringsOf 58 [(0, .ref 49), (1, .int v1), (2, .int v2), (3, .int v3), (4, .int v4), (5, .int v5), (6, .int (v6 ||| ((1 : Int32) <<< (v5 &&& 31))))] (r.toList ++ []) I' L' Q)) : XS mX10_ringsOf 43 [(0, .ref 49), (1, .int v1), (2, .int v2), (3, .int v3), (4, .int v4), (5, .int v5), (6, .int v6)] [] I L Q := by
  refine x_iload 6 dX10_ringsOf_43 rfl ?_
  refine x_iconst (v := (1 : Int32)) dX10_ringsOf_45 (by decide) ?_
  refine x_iload 5 dX10_ringsOf_46 rfl ?_
  refine x_ishl dX10_ringsOf_48 ?_
  refine x_ior dX10_ringsOf_49 ?_
  refine x_istore [(0, .ref 49), (1, .int v1), (2, .int v2), (3, .int v3), (4, .int v4), (5, .int v5), (6, .int (v6 ||| ((1 : Int32) <<< (v5 &&& 31))))] dX10_ringsOf_50 (Nat.le_of_ble_eq_true rfl) rfl ?_
  refine x_iload_n 2 dX10_ringsOf_52 rfl rfl ?_
  refine x_iload 5 dX10_ringsOf_53 rfl ?_
  exact xs_callS mX10_has [.int v2, .int v5] [] 2 _ rfl dX10_ringsOf_55 ml_X10_93 qX10_has rfl ⟨Nat.le_of_ble_eq_true rfl, Nat.le_of_ble_eq_true rfl⟩ ⟨rfl, rfl⟩ (Nat.le_of_ble_eq_true rfl) (Nat.le_of_ble_eq_true rfl) (K)
theorem bX10_ringsOf_58 {I : Nat → Nat → Int32} {L : Nat → Int64} {Q : Option Value → (Nat → Nat → Int32) → (Nat → Int64) → Prop} {v1 : Int32} {v2 : Int32} {v3 : Int32} {v4 : Int32} {v5 : Int32} {v6 : Int32} {s0 : Int32}  (K1 : (s0 = 0) → XS mX10_ringsOf 76 [(0, .ref 49), (1, .int v1), (2, .int v2), (3, .int v3), (4, .int v4), (5, .int v5), (6, .int v6)] [] I L Q) (K2 : (¬ s0 = 0) → XS mX10_ringsOf 61 [(0, .ref 49), (1, .int v1), (2, .int v2), (3, .int v3), (4, .int v4), (5, .int v5), (6, .int v6)] [] I L Q) : XS mX10_ringsOf 58 [(0, .ref 49), (1, .int v1), (2, .int v2), (3, .int v3), (4, .int v4), (5, .int v5), (6, .int v6)] [.int s0] I L Q := by
  exact x_if_eq 76 dX10_ringsOf_58 (by decide) (fun h => K1 h) (fun h => K2 h)
theorem bX10_ringsOf_61 {I : Nat → Nat → Int32} {L : Nat → Int64} {Q : Option Value → (Nat → Nat → Int32) → (Nat → Int64) → Prop} {v1 : Int32} {v2 : Int32} {v3 : Int32} {v4 : Int32} {v5 : Int32} {v6 : Int32} (hb1 : vp_in (((8 : Int32) * v5) + v1) 64) (K : XS mX10_ringsOf 88 [(0, .ref 49), (1, .int v1), (2, .int v2), (3, .int v3), (4, .int v4), (6, .int v6)] [.int (I 4352 ((((8 : Int32) * v5) + v1).toNatClampNeg))] I L Q) : XS mX10_ringsOf 61 [(0, .ref 49), (1, .int v1), (2, .int v2), (3, .int v3), (4, .int v4), (5, .int v5), (6, .int v6)] [] I L Q := by
  refine x_aload_n 0 dX10_ringsOf_61 rfl rfl ?_
  refine xs_getr dX10_ringsOf_62 fl_X10_68 sh_49 rfl rf_3169 ?_
  refine x_bipush (v := (8 : Int32)) dX10_ringsOf_65 (by decide) ?_
  refine x_iload 5 dX10_ringsOf_67 rfl ?_
  refine x_imul dX10_ringsOf_69 ?_
  refine x_iload_n 1 dX10_ringsOf_70 rfl rfl ?_
  refine x_iadd dX10_ringsOf_71 ?_
  refine xs_iald 4352 ((((8 : Int32) * v5) + v1).toNatClampNeg) dX10_ringsOf_72 sh_68 rfl rfl hb1 ?_
  exact x_goto 88 dX10_ringsOf_73 (by decide) (x_sub [0, 1, 2, 3, 4, 6] rfl (K))
theorem bX10_ringsOf_76 {I : Nat → Nat → Int32} {L : Nat → Int64} {Q : Option Value → (Nat → Nat → Int32) → (Nat → Int64) → Prop} {v1 : Int32} {v2 : Int32} {v3 : Int32} {v4 : Int32} {v5 : Int32} {v6 : Int32} (hb1 : vp_in (((8 : Int32) * v5) + v1) 64) (K : XS mX10_ringsOf 88 [(0, .ref 49), (1, .int v1), (2, .int v2), (3, .int v3), (4, .int v4), (6, .int v6)] [.int (I 4288 ((((8 : Int32) * v5) + v1).toNatClampNeg))] I L Q) : XS mX10_ringsOf 76 [(0, .ref 49), (1, .int v1), (2, .int v2), (3, .int v3), (4, .int v4), (5, .int v5), (6, .int v6)] [] I L Q := by
  refine x_aload_n 0 dX10_ringsOf_76 rfl rfl ?_
  refine xs_getr dX10_ringsOf_77 fl_X10_65 sh_49 rfl rf_3168 ?_
  refine x_bipush (v := (8 : Int32)) dX10_ringsOf_80 (by decide) ?_
  refine x_iload 5 dX10_ringsOf_82 rfl ?_
  refine x_imul dX10_ringsOf_84 ?_
  refine x_iload_n 1 dX10_ringsOf_85 rfl rfl ?_
  refine x_iadd dX10_ringsOf_86 ?_
  refine xs_iald 4288 ((((8 : Int32) * v5) + v1).toNatClampNeg) dX10_ringsOf_87 sh_67 rfl rfl hb1 ?_
  exact x_sub [0, 1, 2, 3, 4, 6] rfl (K)
theorem bX10_ringsOf_88 {I : Nat → Nat → Int32} {L : Nat → Int64} {Q : Option Value → (Nat → Nat → Int32) → (Nat → Int64) → Prop} {v1 : Int32} {v2 : Int32} {v3 : Int32} {v4 : Int32} {v6 : Int32} {s0 : Int32}  (K : XS mX10_ringsOf 21 [(0, .ref 49), (1, .int v1), (2, .int v2), (3, .int v3), (4, .int v4), (5, .int s0), (6, .int v6)] [] I L Q) : XS mX10_ringsOf 88 [(0, .ref 49), (1, .int v1), (2, .int v2), (3, .int v3), (4, .int v4), (6, .int v6)] [.int s0] I L Q := by
  refine x_istore [(0, .ref 49), (1, .int v1), (2, .int v2), (3, .int v3), (4, .int v4), (5, .int s0), (6, .int v6)] dX10_ringsOf_88 (Nat.le_of_ble_eq_true rfl) rfl ?_
  exact x_goto 21 dX10_ringsOf_90 (by decide) (K)
theorem bX10_ringsOf_93 {I : Nat → Nat → Int32} {L : Nat → Int64} {Q : Option Value → (Nat → Nat → Int32) → (Nat → Int64) → Prop} {v1 : Int32} {v2 : Int32} {v3 : Int32} {v4 : Int32} {v5 : Int32}  (K1 : (v5 = (-1 : Int32)) → XS mX10_ringsOf 113 [(0, .ref 49), (1, .int v1), (2, .int v2), (4, .int v4)] [.int v3] I L Q) (K2 : (¬ v5 = (-1 : Int32)) → XS mX10_ringsOf 100 [(0, .ref 49), (1, .int v1), (2, .int v2), (4, .int v4), (5, .int v5)] [.int v3] I L Q) : XS mX10_ringsOf 93 [(0, .ref 49), (1, .int v1), (2, .int v2), (3, .int v3), (4, .int v4), (5, .int v5)] [] I L Q := by
  refine x_iload_n 3 dX10_ringsOf_93 rfl rfl ?_
  refine x_iload 5 dX10_ringsOf_94 rfl ?_
  refine x_iconst (v := (-1 : Int32)) dX10_ringsOf_96 (by decide) ?_
  exact x_icmp_eq 113 dX10_ringsOf_97 (by decide) (fun h => x_sub [0, 1, 2, 4] rfl (K1 h)) (fun h => x_sub [0, 1, 2, 4, 5] rfl (K2 h))
theorem bX10_ringsOf_100 {I : Nat → Nat → Int32} {L : Nat → Int64} {Q : Option Value → (Nat → Nat → Int32) → (Nat → Int64) → Prop} {v1 : Int32} {v2 : Int32} {v4 : Int32} {v5 : Int32} {s0 : Int32}  (K1 : (v5 = v1) → XS mX10_ringsOf 113 [(0, .ref 49), (1, .int v1), (2, .int v2), (4, .int v4)] [.int s0] I L Q) (K2 : (¬ v5 = v1) → XS mX10_ringsOf 106 [(0, .ref 49), (1, .int v1), (2, .int v2), (4, .int v4)] [.int s0] I L Q) : XS mX10_ringsOf 100 [(0, .ref 49), (1, .int v1), (2, .int v2), (4, .int v4), (5, .int v5)] [.int s0] I L Q := by
  refine x_iload 4 dX10_ringsOf_100 rfl ?_
  refine x_iload_n 1 dX10_ringsOf_102 rfl rfl ?_
  exact x_icmp_eq 113 dX10_ringsOf_103 (by decide) (fun h => x_sub [0, 1, 2, 3] rfl (K1 h)) (fun h => x_sub [0, 1, 2, 3] rfl (K2 h))
theorem bX10_ringsOf_106 {I : Nat → Nat → Int32} {L : Nat → Int64} {Q : Option Value → (Nat → Nat → Int32) → (Nat → Int64) → Prop} {v1 : Int32} {v2 : Int32} {v4 : Int32} {s0 : Int32}  (K : XS mX10_ringsOf 114 [(0, .ref 49), (1, .int v1), (2, .int v2), (4, .int v4)] [.int ((1 : Int32) <<< (v4 &&& 31)), .int s0] I L Q) : XS mX10_ringsOf 106 [(0, .ref 49), (1, .int v1), (2, .int v2), (4, .int v4)] [.int s0] I L Q := by
  refine x_iconst (v := (1 : Int32)) dX10_ringsOf_106 (by decide) ?_
  refine x_iload 3 dX10_ringsOf_107 rfl ?_
  refine x_ishl dX10_ringsOf_109 ?_
  exact x_goto 114 dX10_ringsOf_110 (by decide) (K)
theorem bX10_ringsOf_113 {I : Nat → Nat → Int32} {L : Nat → Int64} {Q : Option Value → (Nat → Nat → Int32) → (Nat → Int64) → Prop} {v1 : Int32} {v2 : Int32} {v4 : Int32} {s0 : Int32}  (K : XS mX10_ringsOf 114 [(0, .ref 49), (1, .int v1), (2, .int v2), (4, .int v4)] [.int (0 : Int32), .int s0] I L Q) : XS mX10_ringsOf 113 [(0, .ref 49), (1, .int v1), (2, .int v2), (4, .int v4)] [.int s0] I L Q := by
  refine x_iconst (v := (0 : Int32)) dX10_ringsOf_113 (by decide) ?_
  exact K
theorem bX10_ringsOf_114 {I : Nat → Nat → Int32} {L : Nat → Int64} {Q : Option Value → (Nat → Nat → Int32) → (Nat → Int64) → Prop} {v1 : Int32} {v2 : Int32} {v4 : Int32} {s0 : Int32} {s1 : Int32}  (K : XS mX10_ringsOf 5 [(0, .ref 49), (1, .int v1), (2, .int v2), (3, .int (s0 ||| s1)), (4, .int (v4 + (1 : Int32)))] [] I L Q) : XS mX10_ringsOf 114 [(0, .ref 49), (1, .int v1), (2, .int v2), (4, .int v4)] [.int s1, .int s0] I L Q := by
  refine x_ior dX10_ringsOf_114 ?_
  refine x_istore_n [(0, .ref 49), (1, .int v1), (2, .int v2), (3, .int (s0 ||| s1)), (4, .int v4)] dX10_ringsOf_115 rfl (Nat.le_of_ble_eq_true rfl) rfl ?_
  refine x_iinc 4 (v4 + (1 : Int32)) [(0, .ref 49), (1, .int v1), (2, .int v2), (3, .int (s0 ||| s1)), (4, .int (v4 + (1 : Int32)))] dX10_ringsOf_116 rfl rfl (Nat.le_of_ble_eq_true rfl) rfl ?_
  exact x_goto 5 dX10_ringsOf_119 (by decide) (K)
theorem bX10_ringsOf_122 {I : Nat → Nat → Int32} {L : Nat → Int64} {Q : Option Value → (Nat → Nat → Int32) → (Nat → Int64) → Prop} {v3 : Int32}  (K : Q (some (.int v3)) I L) : XS mX10_ringsOf 122 [(3, .int v3)] [] I L Q := by
  refine x_iload_n 0 dX10_ringsOf_122 rfl rfl ?_
  exact xs_iret dX10_ringsOf_123 rfl rfl K
theorem bX10_isSafe_0 {I : Nat → Nat → Int32} {L : Nat → Int64} {Q : Option Value → (Nat → Nat → Int32) → (Nat → Int64) → Prop} {v1 : Int32}  (K : XS mX10_isSafe 4 [(0, .ref 49), (1, .int v1), (2, .int (1 : Int32)), (3, .int (0 : Int32))] [] I L Q) : XS mX10_isSafe 0 [(0, .ref 49), (1, .int v1)] [] I L Q := by
  refine x_iconst (v := (1 : Int32)) dX10_isSafe_0 (by decide) ?_
  refine x_istore_n [(0, .ref 49), (1, .int v1), (2, .int (1 : Int32))] dX10_isSafe_1 rfl (Nat.le_of_ble_eq_true rfl) rfl ?_
  refine x_iconst (v := (0 : Int32)) dX10_isSafe_2 (by decide) ?_
  refine x_istore_n [(0, .ref 49), (1, .int v1), (2, .int (1 : Int32)), (3, .int (0 : Int32))] dX10_isSafe_3 rfl (Nat.le_of_ble_eq_true rfl) rfl ?_
  exact K
theorem bX10_isSafe_4 {I : Nat → Nat → Int32} {L : Nat → Int64} {Q : Option Value → (Nat → Nat → Int32) → (Nat → Int64) → Prop} {v1 : Int32} {v2 : Int32} {v3 : Int32}  (K1 : ((I 3136 0) ≤ v3) → XS mX10_isSafe 37 [(2, .int v2)] [] I L Q) (K2 : (¬ (I 3136 0) ≤ v3) → XS mX10_isSafe 12 [(0, .ref 49), (1, .int v1), (2, .int v2), (3, .int v3)] [] I L Q) : XS mX10_isSafe 4 [(0, .ref 49), (1, .int v1), (2, .int v2), (3, .int v3)] [] I L Q := by
  refine x_iload_n 3 dX10_isSafe_4 rfl rfl ?_
  refine x_aload_n 0 dX10_isSafe_5 rfl rfl ?_
  refine xs_geti 3136 dX10_isSafe_6 fl_X10_7 sh_49 rfl rfl ?_
  exact x_icmp_ge 37 dX10_isSafe_9 (by decide) (fun h => x_sub [2] rfl (K1 h)) (fun h => K2 h)
theorem bX10_isSafe_12 {I : Nat → Nat → Int32} {L : Nat → Int64} {Q : Option Value → (Nat → Nat → Int32) → (Nat → Int64) → Prop} {v1 : Int32} {v2 : Int32} {v3 : Int32}  (K1 : (v2 = 0) → XS mX10_isSafe 29 [(0, .ref 49), (1, .int v1), (3, .int v3)] [] I L Q) (K2 : (¬ v2 = 0) → XS mX10_isSafe 16 [(0, .ref 49), (1, .int v1), (3, .int v3)] [] I L Q) : XS mX10_isSafe 12 [(0, .ref 49), (1, .int v1), (2, .int v2), (3, .int v3)] [] I L Q := by
  refine x_iload_n 2 dX10_isSafe_12 rfl rfl ?_
  exact x_if_eq 29 dX10_isSafe_13 (by decide) (fun h => x_sub [0, 1, 3] rfl (K1 h)) (fun h => x_sub [0, 1, 3] rfl (K2 h))
theorem bX10_isSafe_16 {I : Nat → Nat → Int32} {L : Nat → Int64} {Q : Option Value → (Nat → Nat → Int32) → (Nat → Int64) → Prop} {v1 : Int32} {v3 : Int32}  (K : XS mX10_ringsOf 0 [(0, .ref 49), (1, .int v3), (2, .int v1)] [] I L (fun r I' L' => XS mX10_isSafe 22 [(0, .ref 49), (1, .int v1), (3, .int v3)] (r.toList ++ []) I' L' Q)) : XS mX10_isSafe 16 [(0, .ref 49), (1, .int v1), (3, .int v3)] [] I L Q := by
  refine x_aload_n 0 dX10_isSafe_16 rfl rfl ?_
  refine x_iload_n 2 dX10_isSafe_17 rfl rfl ?_
  refine x_iload_n 1 dX10_isSafe_18 rfl rfl ?_
  exact xs_callV mX10_ringsOf [.int v3, .int v1] [] 49 10 2 _ rfl dX10_isSafe_19 ml_X10_240 qX10_ringsOf rfl ⟨Nat.le_of_ble_eq_true rfl, Nat.le_of_ble_eq_true rfl⟩ ⟨rfl, rfl⟩ (Nat.le_of_ble_eq_true rfl) sh_49 (by decide) rfl (Nat.le_of_ble_eq_true rfl) (K)
theorem bX10_isSafe_22 {I : Nat → Nat → Int32} {L : Nat → Int64} {Q : Option Value → (Nat → Nat → Int32) → (Nat → Int64) → Prop} {v1 : Int32} {v3 : Int32} {s0 : Int32}  (K1 : (¬ s0 = 0) → XS mX10_isSafe 29 [(0, .ref 49), (1, .int v1), (3, .int v3)] [] I L Q) (K2 : (s0 = 0) → XS mX10_isSafe 25 [(0, .ref 49), (1, .int v1), (3, .int v3)] [] I L Q) : XS mX10_isSafe 22 [(0, .ref 49), (1, .int v1), (3, .int v3)] [.int s0] I L Q := by
  exact x_if_ne 29 dX10_isSafe_22 (by decide) (fun h => K1 h) (fun h => K2 h)
theorem bX10_isSafe_25 {I : Nat → Nat → Int32} {L : Nat → Int64} {Q : Option Value → (Nat → Nat → Int32) → (Nat → Int64) → Prop} {v1 : Int32} {v3 : Int32}  (K : XS mX10_isSafe 30 [(0, .ref 49), (1, .int v1), (3, .int v3)] [.int (1 : Int32)] I L Q) : XS mX10_isSafe 25 [(0, .ref 49), (1, .int v1), (3, .int v3)] [] I L Q := by
  refine x_iconst (v := (1 : Int32)) dX10_isSafe_25 (by decide) ?_
  exact x_goto 30 dX10_isSafe_26 (by decide) (K)
theorem bX10_isSafe_29 {I : Nat → Nat → Int32} {L : Nat → Int64} {Q : Option Value → (Nat → Nat → Int32) → (Nat → Int64) → Prop} {v1 : Int32} {v3 : Int32}  (K : XS mX10_isSafe 30 [(0, .ref 49), (1, .int v1), (3, .int v3)] [.int (0 : Int32)] I L Q) : XS mX10_isSafe 29 [(0, .ref 49), (1, .int v1), (3, .int v3)] [] I L Q := by
  refine x_iconst (v := (0 : Int32)) dX10_isSafe_29 (by decide) ?_
  exact K
theorem bX10_isSafe_30 {I : Nat → Nat → Int32} {L : Nat → Int64} {Q : Option Value → (Nat → Nat → Int32) → (Nat → Int64) → Prop} {v1 : Int32} {v3 : Int32} {s0 : Int32}  (K : XS mX10_isSafe 4 [(0, .ref 49), (1, .int v1), (2, .int s0), (3, .int (v3 + (1 : Int32)))] [] I L Q) : XS mX10_isSafe 30 [(0, .ref 49), (1, .int v1), (3, .int v3)] [.int s0] I L Q := by
  refine x_istore_n [(0, .ref 49), (1, .int v1), (2, .int s0), (3, .int v3)] dX10_isSafe_30 rfl (Nat.le_of_ble_eq_true rfl) rfl ?_
  refine x_iinc 3 (v3 + (1 : Int32)) [(0, .ref 49), (1, .int v1), (2, .int s0), (3, .int (v3 + (1 : Int32)))] dX10_isSafe_31 rfl rfl (Nat.le_of_ble_eq_true rfl) rfl ?_
  exact x_goto 4 dX10_isSafe_34 (by decide) (K)
theorem bX10_isSafe_37 {I : Nat → Nat → Int32} {L : Nat → Int64} {Q : Option Value → (Nat → Nat → Int32) → (Nat → Int64) → Prop} {v2 : Int32} (hz1 : v2 = 0 ∨ v2 = 1) (K : Q (some (.int v2)) I L) : XS mX10_isSafe 37 [(2, .int v2)] [] I L Q := by
  refine x_iload_n 0 dX10_isSafe_37 rfl rfl ?_
  exact xs_iret dX10_isSafe_38 rfl (x_nar _ hz1) K
theorem bX10_rings_0 {I : Nat → Nat → Int32} {L : Nat → Int64} {Q : Option Value → (Nat → Nat → Int32) → (Nat → Int64) → Prop} {v1 : Int32}  (K : XS mX10_isNode 0 [(0, .ref 49), (1, .int v1)] [] I L (fun r I' L' => XS mX10_rings 5 [(0, .ref 49), (1, .int v1)] (r.toList ++ []) I' L' Q)) : XS mX10_rings 0 [(0, .ref 49), (1, .int v1)] [] I L Q := by
  refine x_aload_n 0 dX10_rings_0 rfl rfl ?_
  refine x_iload_n 1 dX10_rings_1 rfl rfl ?_
  exact xs_callV mX10_isNode [.int v1] [] 49 10 1 _ rfl dX10_rings_2 ml_X10_234 qX10_isNode rfl ⟨Nat.le_of_ble_eq_true rfl, Nat.le_of_ble_eq_true rfl⟩ ⟨rfl, rfl⟩ (Nat.le_of_ble_eq_true rfl) sh_49 (by decide) rfl (Nat.le_of_ble_eq_true rfl) (K)
theorem bX10_rings_5 {I : Nat → Nat → Int32} {L : Nat → Int64} {Q : Option Value → (Nat → Nat → Int32) → (Nat → Int64) → Prop} {v1 : Int32} {s0 : Int32}  (K1 : (¬ s0 = 0) → XS mX10_rings 11 [(0, .ref 49), (1, .int v1)] [] I L Q) (K2 : (s0 = 0) → XS mX10_rings 8 [] [] I L Q) : XS mX10_rings 5 [(0, .ref 49), (1, .int v1)] [.int s0] I L Q := by
  exact x_if_ne 11 dX10_rings_5 (by decide) (fun h => K1 h) (fun h => x_sub [] rfl (K2 h))
theorem bX10_rings_8 {I : Nat → Nat → Int32} {L : Nat → Int64} {Q : Option Value → (Nat → Nat → Int32) → (Nat → Int64) → Prop}   (K : Q (some (.int (-2 : Int32))) I L) : XS mX10_rings 8 [] [] I L Q := by
  refine x_bipush (v := (-2 : Int32)) dX10_rings_8 (by decide) ?_
  exact xs_iret dX10_rings_10 rfl rfl K
theorem bX10_rings_11 {I : Nat → Nat → Int32} {L : Nat → Int64} {Q : Option Value → (Nat → Nat → Int32) → (Nat → Int64) → Prop} {v1 : Int32}  (K : XS mX10_laysGoes 0 [(0, .ref 49)] [] I L (fun r I' L' => XS mX10_rings 15 [(0, .ref 49), (1, .int v1)] (r.toList ++ []) I' L' Q)) : XS mX10_rings 11 [(0, .ref 49), (1, .int v1)] [] I L Q := by
  refine x_aload_n 0 dX10_rings_11 rfl rfl ?_
  exact xs_callV mX10_laysGoes [] [] 49 10 0 _ rfl dX10_rings_12 ml_X10_243 qX10_laysGoes rfl ⟨Nat.le_of_ble_eq_true rfl, Nat.le_of_ble_eq_true rfl⟩ ⟨rfl, rfl⟩ (Nat.le_of_ble_eq_true rfl) sh_49 (by decide) rfl (Nat.le_of_ble_eq_true rfl) (K)
theorem bX10_rings_15 {I : Nat → Nat → Int32} {L : Nat → Int64} {Q : Option Value → (Nat → Nat → Int32) → (Nat → Int64) → Prop} {v1 : Int32}  (K : XS mX10_ringsOf 0 [(0, .ref 49), (1, .int v1), (2, .int (0 : Int32))] [] I L (fun r I' L' => XS mX10_rings 21 [] (r.toList ++ []) I' L' Q)) : XS mX10_rings 15 [(0, .ref 49), (1, .int v1)] [] I L Q := by
  refine x_aload_n 0 dX10_rings_15 rfl rfl ?_
  refine x_iload_n 1 dX10_rings_16 rfl rfl ?_
  refine x_iconst (v := (0 : Int32)) dX10_rings_17 (by decide) ?_
  refine x_sub [] rfl ?_
  exact xs_callV mX10_ringsOf [.int v1, .int (0 : Int32)] [] 49 10 2 _ rfl dX10_rings_18 ml_X10_240 qX10_ringsOf rfl ⟨Nat.le_of_ble_eq_true rfl, Nat.le_of_ble_eq_true rfl⟩ ⟨rfl, rfl⟩ (Nat.le_of_ble_eq_true rfl) sh_49 (by decide) rfl (Nat.le_of_ble_eq_true rfl) (K)
theorem bX10_rings_21 {I : Nat → Nat → Int32} {L : Nat → Int64} {Q : Option Value → (Nat → Nat → Int32) → (Nat → Int64) → Prop} {s0 : Int32}  (K : Q (some (.int s0)) I L) : XS mX10_rings 21 [] [.int s0] I L Q := by
  exact xs_iret dX10_rings_21 rfl rfl K
theorem bX10_safe_0 {I : Nat → Nat → Int32} {L : Nat → Int64} {Q : Option Value → (Nat → Nat → Int32) → (Nat → Int64) → Prop} {v1 : Int32}  (K : XS mX10_isNode 0 [(0, .ref 49), (1, .int v1)] [] I L (fun r I' L' => XS mX10_safe 5 [(0, .ref 49), (1, .int v1)] (r.toList ++ []) I' L' Q)) : XS mX10_safe 0 [(0, .ref 49), (1, .int v1)] [] I L Q := by
  refine x_aload_n 0 dX10_safe_0 rfl rfl ?_
  refine x_iload_n 1 dX10_safe_1 rfl rfl ?_
  exact xs_callV mX10_isNode [.int v1] [] 49 10 1 _ rfl dX10_safe_2 ml_X10_234 qX10_isNode rfl ⟨Nat.le_of_ble_eq_true rfl, Nat.le_of_ble_eq_true rfl⟩ ⟨rfl, rfl⟩ (Nat.le_of_ble_eq_true rfl) sh_49 (by decide) rfl (Nat.le_of_ble_eq_true rfl) (K)
theorem bX10_safe_5 {I : Nat → Nat → Int32} {L : Nat → Int64} {Q : Option Value → (Nat → Nat → Int32) → (Nat → Int64) → Prop} {v1 : Int32} {s0 : Int32}  (K1 : (¬ s0 = 0) → XS mX10_safe 11 [(0, .ref 49), (1, .int v1)] [] I L Q) (K2 : (s0 = 0) → XS mX10_safe 8 [] [] I L Q) : XS mX10_safe 5 [(0, .ref 49), (1, .int v1)] [.int s0] I L Q := by
  exact x_if_ne 11 dX10_safe_5 (by decide) (fun h => K1 h) (fun h => x_sub [] rfl (K2 h))
theorem bX10_safe_8 {I : Nat → Nat → Int32} {L : Nat → Int64} {Q : Option Value → (Nat → Nat → Int32) → (Nat → Int64) → Prop}   (K : Q (some (.int (-2 : Int32))) I L) : XS mX10_safe 8 [] [] I L Q := by
  refine x_bipush (v := (-2 : Int32)) dX10_safe_8 (by decide) ?_
  exact xs_iret dX10_safe_10 rfl rfl K
theorem bX10_safe_11 {I : Nat → Nat → Int32} {L : Nat → Int64} {Q : Option Value → (Nat → Nat → Int32) → (Nat → Int64) → Prop} {v1 : Int32}  (K : XS mX10_laysGoes 0 [(0, .ref 49)] [] I L (fun r I' L' => XS mX10_safe 15 [(0, .ref 49), (1, .int v1)] (r.toList ++ []) I' L' Q)) : XS mX10_safe 11 [(0, .ref 49), (1, .int v1)] [] I L Q := by
  refine x_aload_n 0 dX10_safe_11 rfl rfl ?_
  exact xs_callV mX10_laysGoes [] [] 49 10 0 _ rfl dX10_safe_12 ml_X10_243 qX10_laysGoes rfl ⟨Nat.le_of_ble_eq_true rfl, Nat.le_of_ble_eq_true rfl⟩ ⟨rfl, rfl⟩ (Nat.le_of_ble_eq_true rfl) sh_49 (by decide) rfl (Nat.le_of_ble_eq_true rfl) (K)
theorem bX10_safe_15 {I : Nat → Nat → Int32} {L : Nat → Int64} {Q : Option Value → (Nat → Nat → Int32) → (Nat → Int64) → Prop} {v1 : Int32}  (K : XS mX10_isSafe 0 [(0, .ref 49), (1, .int ((1 : Int32) <<< (v1 &&& 31)))] [] I L (fun r I' L' => XS mX10_safe 22 [] (r.toList ++ []) I' L' Q)) : XS mX10_safe 15 [(0, .ref 49), (1, .int v1)] [] I L Q := by
  refine x_aload_n 0 dX10_safe_15 rfl rfl ?_
  refine x_iconst (v := (1 : Int32)) dX10_safe_16 (by decide) ?_
  refine x_iload_n 1 dX10_safe_17 rfl rfl ?_
  refine x_ishl dX10_safe_18 ?_
  refine x_sub [] rfl ?_
  exact xs_callV mX10_isSafe [.int ((1 : Int32) <<< (v1 &&& 31))] [] 49 10 1 _ rfl dX10_safe_19 ml_X10_246 qX10_isSafe rfl ⟨Nat.le_of_ble_eq_true rfl, Nat.le_of_ble_eq_true rfl⟩ ⟨rfl, rfl⟩ (Nat.le_of_ble_eq_true rfl) sh_49 (by decide) rfl (Nat.le_of_ble_eq_true rfl) (K)
theorem bX10_safe_22 {I : Nat → Nat → Int32} {L : Nat → Int64} {Q : Option Value → (Nat → Nat → Int32) → (Nat → Int64) → Prop} {s0 : Int32}  (K1 : (s0 = 0) → XS mX10_safe 29 [] [] I L Q) (K2 : (¬ s0 = 0) → XS mX10_safe 25 [] [] I L Q) : XS mX10_safe 22 [] [.int s0] I L Q := by
  exact x_if_eq 29 dX10_safe_22 (by decide) (fun h => K1 h) (fun h => K2 h)
theorem bX10_safe_25 {I : Nat → Nat → Int32} {L : Nat → Int64} {Q : Option Value → (Nat → Nat → Int32) → (Nat → Int64) → Prop}   (K : XS mX10_safe 30 [] [.int (1 : Int32)] I L Q) : XS mX10_safe 25 [] [] I L Q := by
  refine x_iconst (v := (1 : Int32)) dX10_safe_25 (by decide) ?_
  exact x_goto 30 dX10_safe_26 (by decide) (K)
theorem bX10_safe_29 {I : Nat → Nat → Int32} {L : Nat → Int64} {Q : Option Value → (Nat → Nat → Int32) → (Nat → Int64) → Prop}   (K : XS mX10_safe 30 [] [.int (0 : Int32)] I L Q) : XS mX10_safe 29 [] [] I L Q := by
  refine x_iconst (v := (0 : Int32)) dX10_safe_29 (by decide) ?_
  exact K
theorem bX10_safe_30 {I : Nat → Nat → Int32} {L : Nat → Int64} {Q : Option Value → (Nat → Nat → Int32) → (Nat → Int64) → Prop} {s0 : Int32}  (K : Q (some (.int s0)) I L) : XS mX10_safe 30 [] [.int s0] I L Q := by
  exact xs_iret dX10_safe_30 rfl rfl K
theorem bX10_behind_0 {I : Nat → Nat → Int32} {L : Nat → Int64} {Q : Option Value → (Nat → Nat → Int32) → (Nat → Int64) → Prop}   (K : XS mX10_behind 4 [(0, .ref 49), (1, .int (0 : Int32)), (2, .int (0 : Int32))] [] I L Q) : XS mX10_behind 0 [(0, .ref 49)] [] I L Q := by
  refine x_iconst (v := (0 : Int32)) dX10_behind_0 (by decide) ?_
  refine x_istore_n [(0, .ref 49), (1, .int (0 : Int32))] dX10_behind_1 rfl (Nat.le_of_ble_eq_true rfl) rfl ?_
  refine x_iconst (v := (0 : Int32)) dX10_behind_2 (by decide) ?_
  refine x_istore_n [(0, .ref 49), (1, .int (0 : Int32)), (2, .int (0 : Int32))] dX10_behind_3 rfl (Nat.le_of_ble_eq_true rfl) rfl ?_
  exact K
theorem bX10_behind_4 {I : Nat → Nat → Int32} {L : Nat → Int64} {Q : Option Value → (Nat → Nat → Int32) → (Nat → Int64) → Prop} {v1 : Int32} {v2 : Int32}  (K1 : ((I 3136 0) ≤ v2) → XS mX10_behind 47 [(1, .int v1)] [] I L Q) (K2 : (¬ (I 3136 0) ≤ v2) → XS mX10_behind 12 [(0, .ref 49), (1, .int v1), (2, .int v2)] [] I L Q) : XS mX10_behind 4 [(0, .ref 49), (1, .int v1), (2, .int v2)] [] I L Q := by
  refine x_iload_n 2 dX10_behind_4 rfl rfl ?_
  refine x_aload_n 0 dX10_behind_5 rfl rfl ?_
  refine xs_geti 3136 dX10_behind_6 fl_X10_7 sh_49 rfl rfl ?_
  exact x_icmp_ge 47 dX10_behind_9 (by decide) (fun h => x_sub [1] rfl (K1 h)) (fun h => K2 h)
theorem bX10_behind_12 {I : Nat → Nat → Int32} {L : Nat → Int64} {Q : Option Value → (Nat → Nat → Int32) → (Nat → Int64) → Prop} {v1 : Int32} {v2 : Int32} (hb1 : vp_in ((29 : Int32) + v2) 37) (K1 : ((I 3392 (((29 : Int32) + v2).toNatClampNeg)) = (I 3392 28)) → XS mX10_behind 38 [(0, .ref 49), (2, .int v2)] [.int v1] I L Q) (K2 : (¬ (I 3392 (((29 : Int32) + v2).toNatClampNeg)) = (I 3392 28)) → XS mX10_behind 32 [(0, .ref 49), (2, .int v2)] [.int v1] I L Q) : XS mX10_behind 12 [(0, .ref 49), (1, .int v1), (2, .int v2)] [] I L Q := by
  refine x_iload_n 1 dX10_behind_12 rfl rfl ?_
  refine x_aload_n 0 dX10_behind_13 rfl rfl ?_
  refine xs_getr dX10_behind_14 fl_X10_23 sh_49 rfl rf_3141 ?_
  refine x_bipush (v := (29 : Int32)) dX10_behind_17 (by decide) ?_
  refine x_iload_n 2 dX10_behind_19 rfl rfl ?_
  refine x_iadd dX10_behind_20 ?_
  refine xs_iald 3392 (((29 : Int32) + v2).toNatClampNeg) dX10_behind_21 sh_53 rfl rfl hb1 ?_
  refine x_aload_n 0 dX10_behind_22 rfl rfl ?_
  refine xs_getr dX10_behind_23 fl_X10_23 sh_49 rfl rf_3141 ?_
  refine x_bipush (v := (28 : Int32)) dX10_behind_26 (by decide) ?_
  refine xs_iald 3392 (28) dX10_behind_28 sh_53 rfl (by decide) (x_vpin (by decide)) ?_
  exact x_icmp_eq 38 dX10_behind_29 (by decide) (fun h => x_sub [0, 2] rfl (K1 h)) (fun h => x_sub [0, 2] rfl (K2 h))
theorem bX10_behind_32 {I : Nat → Nat → Int32} {L : Nat → Int64} {Q : Option Value → (Nat → Nat → Int32) → (Nat → Int64) → Prop} {v2 : Int32} {s0 : Int32}  (K : XS mX10_behind 39 [(0, .ref 49), (2, .int v2)] [.int ((1 : Int32) <<< (v2 &&& 31)), .int s0] I L Q) : XS mX10_behind 32 [(0, .ref 49), (2, .int v2)] [.int s0] I L Q := by
  refine x_iconst (v := (1 : Int32)) dX10_behind_32 (by decide) ?_
  refine x_iload_n 1 dX10_behind_33 rfl rfl ?_
  refine x_ishl dX10_behind_34 ?_
  exact x_goto 39 dX10_behind_35 (by decide) (K)
theorem bX10_behind_38 {I : Nat → Nat → Int32} {L : Nat → Int64} {Q : Option Value → (Nat → Nat → Int32) → (Nat → Int64) → Prop} {v2 : Int32} {s0 : Int32}  (K : XS mX10_behind 39 [(0, .ref 49), (2, .int v2)] [.int (0 : Int32), .int s0] I L Q) : XS mX10_behind 38 [(0, .ref 49), (2, .int v2)] [.int s0] I L Q := by
  refine x_iconst (v := (0 : Int32)) dX10_behind_38 (by decide) ?_
  exact K
theorem bX10_behind_39 {I : Nat → Nat → Int32} {L : Nat → Int64} {Q : Option Value → (Nat → Nat → Int32) → (Nat → Int64) → Prop} {v2 : Int32} {s0 : Int32} {s1 : Int32}  (K : XS mX10_behind 4 [(0, .ref 49), (1, .int (s0 ||| s1)), (2, .int (v2 + (1 : Int32)))] [] I L Q) : XS mX10_behind 39 [(0, .ref 49), (2, .int v2)] [.int s1, .int s0] I L Q := by
  refine x_ior dX10_behind_39 ?_
  refine x_istore_n [(0, .ref 49), (1, .int (s0 ||| s1)), (2, .int v2)] dX10_behind_40 rfl (Nat.le_of_ble_eq_true rfl) rfl ?_
  refine x_iinc 2 (v2 + (1 : Int32)) [(0, .ref 49), (1, .int (s0 ||| s1)), (2, .int (v2 + (1 : Int32)))] dX10_behind_41 rfl rfl (Nat.le_of_ble_eq_true rfl) rfl ?_
  exact x_goto 4 dX10_behind_44 (by decide) (K)
theorem bX10_behind_47 {I : Nat → Nat → Int32} {L : Nat → Int64} {Q : Option Value → (Nat → Nat → Int32) → (Nat → Int64) → Prop} {v1 : Int32}  (K : Q (some (.int v1)) I L) : XS mX10_behind 47 [(1, .int v1)] [] I L Q := by
  refine x_iload_n 0 dX10_behind_47 rfl rfl ?_
  exact xs_iret dX10_behind_48 rfl rfl K
theorem bX10_laysOrders_0 {I : Nat → Nat → Int32} {L : Nat → Int64} {Q : Option Value → (Nat → Nat → Int32) → (Nat → Int64) → Prop} {v1 : Int32}  (K : XS mX10_laysGoes 0 [(0, .ref 49)] [] I L (fun r I' L' => XS mX10_laysOrders 4 [(0, .ref 49), (1, .int v1)] (r.toList ++ []) I' L' Q)) : XS mX10_laysOrders 0 [(0, .ref 49), (1, .int v1)] [] I L Q := by
  refine x_aload_n 0 dX10_laysOrders_0 rfl rfl ?_
  exact xs_callV mX10_laysGoes [] [] 49 10 0 _ rfl dX10_laysOrders_1 ml_X10_243 qX10_laysGoes rfl ⟨Nat.le_of_ble_eq_true rfl, Nat.le_of_ble_eq_true rfl⟩ ⟨rfl, rfl⟩ (Nat.le_of_ble_eq_true rfl) sh_49 (by decide) rfl (Nat.le_of_ble_eq_true rfl) (K)
theorem bX10_laysOrders_4 {I : Nat → Nat → Int32} {L : Nat → Int64} {Q : Option Value → (Nat → Nat → Int32) → (Nat → Int64) → Prop} {v1 : Int32}  (K : XS mX10_laysOrders 8 [(0, .ref 49), (1, .int v1), (2, .int (255 : Int32))] [] I L Q) : XS mX10_laysOrders 4 [(0, .ref 49), (1, .int v1)] [] I L Q := by
  refine x_sipush (v := (255 : Int32)) dX10_laysOrders_4 (by decide) ?_
  refine x_istore_n [(0, .ref 49), (1, .int v1), (2, .int (255 : Int32))] dX10_laysOrders_7 rfl (Nat.le_of_ble_eq_true rfl) rfl ?_
  exact K
theorem bX10_laysOrders_8 {I : Nat → Nat → Int32} {L : Nat → Int64} {Q : Option Value → (Nat → Nat → Int32) → (Nat → Int64) → Prop} {v1 : Int32} {v2 : Int32}  (K1 : (v2 < 0) → XS mX10_laysOrders 125 [] [] I L Q) (K2 : (¬ v2 < 0) → XS mX10_laysOrders 12 [(0, .ref 49), (1, .int v1), (2, .int v2)] [] I L Q) : XS mX10_laysOrders 8 [(0, .ref 49), (1, .int v1), (2, .int v2)] [] I L Q := by
  refine x_iload_n 2 dX10_laysOrders_8 rfl rfl ?_
  exact x_if_lt 125 dX10_laysOrders_9 (by decide) (fun h => x_sub [] rfl (K1 h)) (fun h => K2 h)
theorem bX10_laysOrders_12 {I : Nat → Nat → Int32} {L : Nat → Int64} {Q : Option Value → (Nat → Nat → Int32) → (Nat → Int64) → Prop} {v1 : Int32} {v2 : Int32}  (K1 : (¬ v2 = v1) → XS mX10_laysOrders 26 [(0, .ref 49), (1, .int v1), (2, .int v2)] [.int v2, .ref 69] I L Q) (K2 : (v2 = v1) → XS mX10_laysOrders 22 [(0, .ref 49), (1, .int v1), (2, .int v2)] [.int v2, .ref 69] I L Q) : XS mX10_laysOrders 12 [(0, .ref 49), (1, .int v1), (2, .int v2)] [] I L Q := by
  refine x_aload_n 0 dX10_laysOrders_12 rfl rfl ?_
  refine xs_getr dX10_laysOrders_13 fl_X10_71 sh_49 rfl rf_3170 ?_
  refine x_iload_n 2 dX10_laysOrders_16 rfl rfl ?_
  refine x_iload_n 2 dX10_laysOrders_17 rfl rfl ?_
  refine x_iload_n 1 dX10_laysOrders_18 rfl rfl ?_
  exact x_icmp_ne 26 dX10_laysOrders_19 (by decide) (fun h => K1 h) (fun h => K2 h)
theorem bX10_laysOrders_22 {I : Nat → Nat → Int32} {L : Nat → Int64} {Q : Option Value → (Nat → Nat → Int32) → (Nat → Int64) → Prop} {v1 : Int32} {v2 : Int32} {s1 : Int32}  (K : XS mX10_laysOrders 27 [(0, .ref 49), (1, .int v1), (2, .int v2)] [.int (1 : Int32), .int s1, .ref 69] I L Q) : XS mX10_laysOrders 22 [(0, .ref 49), (1, .int v1), (2, .int v2)] [.int s1, .ref 69] I L Q := by
  refine x_iconst (v := (1 : Int32)) dX10_laysOrders_22 (by decide) ?_
  exact x_goto 27 dX10_laysOrders_23 (by decide) (K)
theorem bX10_laysOrders_26 {I : Nat → Nat → Int32} {L : Nat → Int64} {Q : Option Value → (Nat → Nat → Int32) → (Nat → Int64) → Prop} {v1 : Int32} {v2 : Int32} {s1 : Int32}  (K : XS mX10_laysOrders 27 [(0, .ref 49), (1, .int v1), (2, .int v2)] [.int (0 : Int32), .int s1, .ref 69] I L Q) : XS mX10_laysOrders 26 [(0, .ref 49), (1, .int v1), (2, .int v2)] [.int s1, .ref 69] I L Q := by
  refine x_iconst (v := (0 : Int32)) dX10_laysOrders_26 (by decide) ?_
  exact K
theorem bX10_laysOrders_27 {I : Nat → Nat → Int32} {L : Nat → Int64} {Q : Option Value → (Nat → Nat → Int32) → (Nat → Int64) → Prop} {v1 : Int32} {v2 : Int32} {s1 : Int32} {s2 : Int32} (hb1 : vp_in s1 256) (K : XS mX10_laysOrders 30 [(0, .ref 49), (1, .int v1), (2, .int v2), (3, .int (0 : Int32))] [] (x_up I 4416 (s1.toNatClampNeg) s2) L Q) : XS mX10_laysOrders 27 [(0, .ref 49), (1, .int v1), (2, .int v2)] [.int s2, .int s1, .ref 69] I L Q := by
  refine xs_iast 4416 (s1.toNatClampNeg) dX10_laysOrders_27 sh_69 rfl rfl hb1 ?_
  refine x_iconst (v := (0 : Int32)) dX10_laysOrders_28 (by decide) ?_
  refine x_istore_n [(0, .ref 49), (1, .int v1), (2, .int v2), (3, .int (0 : Int32))] dX10_laysOrders_29 rfl (Nat.le_of_ble_eq_true rfl) rfl ?_
  exact K
theorem bX10_laysOrders_30 {I : Nat → Nat → Int32} {L : Nat → Int64} {Q : Option Value → (Nat → Nat → Int32) → (Nat → Int64) → Prop} {v1 : Int32} {v2 : Int32} {v3 : Int32}  (K1 : ((I 3136 0) ≤ v3) → XS mX10_laysOrders 119 [(0, .ref 49), (1, .int v1), (2, .int v2)] [] I L Q) (K2 : (¬ (I 3136 0) ≤ v3) → XS mX10_laysOrders 38 [(0, .ref 49), (1, .int v1), (2, .int v2), (3, .int v3)] [] I L Q) : XS mX10_laysOrders 30 [(0, .ref 49), (1, .int v1), (2, .int v2), (3, .int v3)] [] I L Q := by
  refine x_iload_n 3 dX10_laysOrders_30 rfl rfl ?_
  refine x_aload_n 0 dX10_laysOrders_31 rfl rfl ?_
  refine xs_geti 3136 dX10_laysOrders_32 fl_X10_7 sh_49 rfl rfl ?_
  exact x_icmp_ge 119 dX10_laysOrders_35 (by decide) (fun h => x_sub [0, 1, 2] rfl (K1 h)) (fun h => K2 h)
theorem bX10_laysOrders_38 {I : Nat → Nat → Int32} {L : Nat → Int64} {Q : Option Value → (Nat → Nat → Int32) → (Nat → Int64) → Prop} {v1 : Int32} {v2 : Int32} {v3 : Int32}  (K1 : (¬ (v2 &&& (v1 ^^^ (-1 : Int32))) = 0) → XS mX10_laysOrders 119 [(0, .ref 49), (1, .int v1), (2, .int v2)] [] I L Q) (K2 : ((v2 &&& (v1 ^^^ (-1 : Int32))) = 0) → XS mX10_laysOrders 46 [(0, .ref 49), (1, .int v1), (2, .int v2), (3, .int v3)] [] I L Q) : XS mX10_laysOrders 38 [(0, .ref 49), (1, .int v1), (2, .int v2), (3, .int v3)] [] I L Q := by
  refine x_iload_n 2 dX10_laysOrders_38 rfl rfl ?_
  refine x_iload_n 1 dX10_laysOrders_39 rfl rfl ?_
  refine x_iconst (v := (-1 : Int32)) dX10_laysOrders_40 (by decide) ?_
  refine x_ixor dX10_laysOrders_41 ?_
  refine x_iand dX10_laysOrders_42 ?_
  exact x_if_ne 119 dX10_laysOrders_43 (by decide) (fun h => x_sub [0, 1, 2] rfl (K1 h)) (fun h => K2 h)
theorem bX10_laysOrders_46 {I : Nat → Nat → Int32} {L : Nat → Int64} {Q : Option Value → (Nat → Nat → Int32) → (Nat → Int64) → Prop} {v1 : Int32} {v2 : Int32} {v3 : Int32}  (K : XS mX10_has 0 [(0, .int (v1 &&& (v2 ^^^ (-1 : Int32)))), (1, .int v3)] [] I L (fun r I' L' => XS mX10_laysOrders 62 [(0, .ref 49), (1, .int v1), (2, .int v2), (3, .int v3), (4, .int (v2 ||| ((1 : Int32) <<< (v3 &&& 31))))] (r.toList ++ []) I' L' Q)) : XS mX10_laysOrders 46 [(0, .ref 49), (1, .int v1), (2, .int v2), (3, .int v3)] [] I L Q := by
  refine x_iload_n 2 dX10_laysOrders_46 rfl rfl ?_
  refine x_iconst (v := (1 : Int32)) dX10_laysOrders_47 (by decide) ?_
  refine x_iload_n 3 dX10_laysOrders_48 rfl rfl ?_
  refine x_ishl dX10_laysOrders_49 ?_
  refine x_ior dX10_laysOrders_50 ?_
  refine x_istore [(0, .ref 49), (1, .int v1), (2, .int v2), (3, .int v3), (4, .int (v2 ||| ((1 : Int32) <<< (v3 &&& 31))))] dX10_laysOrders_51 (Nat.le_of_ble_eq_true rfl) rfl ?_
  refine x_iload_n 1 dX10_laysOrders_53 rfl rfl ?_
  refine x_iload_n 2 dX10_laysOrders_54 rfl rfl ?_
  refine x_iconst (v := (-1 : Int32)) dX10_laysOrders_55 (by decide) ?_
  refine x_ixor dX10_laysOrders_56 ?_
  refine x_iand dX10_laysOrders_57 ?_
  refine x_iload_n 3 dX10_laysOrders_58 rfl rfl ?_
  exact xs_callS mX10_has [.int (v1 &&& (v2 ^^^ (-1 : Int32))), .int v3] [] 2 _ rfl dX10_laysOrders_59 ml_X10_93 qX10_has rfl ⟨Nat.le_of_ble_eq_true rfl, Nat.le_of_ble_eq_true rfl⟩ ⟨rfl, rfl⟩ (Nat.le_of_ble_eq_true rfl) (Nat.le_of_ble_eq_true rfl) (K)
theorem bX10_laysOrders_62 {I : Nat → Nat → Int32} {L : Nat → Int64} {Q : Option Value → (Nat → Nat → Int32) → (Nat → Int64) → Prop} {v1 : Int32} {v2 : Int32} {v3 : Int32} {v4 : Int32} {s0 : Int32}  (K1 : (s0 = 0) → XS mX10_laysOrders 89 [(0, .ref 49), (1, .int v1), (2, .int v2), (3, .int v3)] [] I L Q) (K2 : (¬ s0 = 0) → XS mX10_laysOrders 65 [(0, .ref 49), (1, .int v1), (2, .int v2), (3, .int v3), (4, .int v4)] [] I L Q) : XS mX10_laysOrders 62 [(0, .ref 49), (1, .int v1), (2, .int v2), (3, .int v3), (4, .int v4)] [.int s0] I L Q := by
  exact x_if_eq 89 dX10_laysOrders_62 (by decide) (fun h => x_sub [0, 1, 2, 3] rfl (K1 h)) (fun h => K2 h)
theorem bX10_laysOrders_65 {I : Nat → Nat → Int32} {L : Nat → Int64} {Q : Option Value → (Nat → Nat → Int32) → (Nat → Int64) → Prop} {v1 : Int32} {v2 : Int32} {v3 : Int32} {v4 : Int32} (hb1 : vp_in v4 256) (K1 : (¬ (I 4416 (v4.toNatClampNeg)) = (1 : Int32)) → XS mX10_laysOrders 89 [(0, .ref 49), (1, .int v1), (2, .int v2), (3, .int v3)] [] I L Q) (K2 : ((I 4416 (v4.toNatClampNeg)) = (1 : Int32)) → XS mX10_laysOrders 76 [(0, .ref 49), (1, .int v1), (2, .int v2), (3, .int v3), (4, .int v4)] [] I L Q) : XS mX10_laysOrders 65 [(0, .ref 49), (1, .int v1), (2, .int v2), (3, .int v3), (4, .int v4)] [] I L Q := by
  refine x_aload_n 0 dX10_laysOrders_65 rfl rfl ?_
  refine xs_getr dX10_laysOrders_66 fl_X10_71 sh_49 rfl rf_3170 ?_
  refine x_iload 4 dX10_laysOrders_69 rfl ?_
  refine xs_iald 4416 (v4.toNatClampNeg) dX10_laysOrders_71 sh_69 rfl rfl hb1 ?_
  refine x_iconst (v := (1 : Int32)) dX10_laysOrders_72 (by decide) ?_
  exact x_icmp_ne 89 dX10_laysOrders_73 (by decide) (fun h => x_sub [0, 1, 2, 3] rfl (K1 h)) (fun h => K2 h)
theorem bX10_laysOrders_76 {I : Nat → Nat → Int32} {L : Nat → Int64} {Q : Option Value → (Nat → Nat → Int32) → (Nat → Int64) → Prop} {v1 : Int32} {v2 : Int32} {v3 : Int32} {v4 : Int32}  (K : XS mX10_isSafe 0 [(0, .ref 49), (1, .int v4)] [] I L (fun r I' L' => XS mX10_laysOrders 82 [(0, .ref 49), (1, .int v1), (2, .int v2), (3, .int v3)] (r.toList ++ []) I' L' Q)) : XS mX10_laysOrders 76 [(0, .ref 49), (1, .int v1), (2, .int v2), (3, .int v3), (4, .int v4)] [] I L Q := by
  refine x_aload_n 0 dX10_laysOrders_76 rfl rfl ?_
  refine x_iload 4 dX10_laysOrders_77 rfl ?_
  refine x_sub [0, 1, 2, 3] rfl ?_
  exact xs_callV mX10_isSafe [.int v4] [] 49 10 1 _ rfl dX10_laysOrders_79 ml_X10_246 qX10_isSafe rfl ⟨Nat.le_of_ble_eq_true rfl, Nat.le_of_ble_eq_true rfl⟩ ⟨rfl, rfl⟩ (Nat.le_of_ble_eq_true rfl) sh_49 (by decide) rfl (Nat.le_of_ble_eq_true rfl) (K)
theorem bX10_laysOrders_82 {I : Nat → Nat → Int32} {L : Nat → Int64} {Q : Option Value → (Nat → Nat → Int32) → (Nat → Int64) → Prop} {v1 : Int32} {v2 : Int32} {v3 : Int32} {s0 : Int32}  (K1 : (s0 = 0) → XS mX10_laysOrders 89 [(0, .ref 49), (1, .int v1), (2, .int v2), (3, .int v3)] [] I L Q) (K2 : (¬ s0 = 0) → XS mX10_laysOrders 85 [(0, .ref 49), (1, .int v1), (2, .int v2), (3, .int v3)] [] I L Q) : XS mX10_laysOrders 82 [(0, .ref 49), (1, .int v1), (2, .int v2), (3, .int v3)] [.int s0] I L Q := by
  exact x_if_eq 89 dX10_laysOrders_82 (by decide) (fun h => K1 h) (fun h => K2 h)
theorem bX10_laysOrders_85 {I : Nat → Nat → Int32} {L : Nat → Int64} {Q : Option Value → (Nat → Nat → Int32) → (Nat → Int64) → Prop} {v1 : Int32} {v2 : Int32} {v3 : Int32}  (K : XS mX10_laysOrders 90 [(0, .ref 49), (1, .int v1), (2, .int v2), (3, .int v3)] [.int (1 : Int32)] I L Q) : XS mX10_laysOrders 85 [(0, .ref 49), (1, .int v1), (2, .int v2), (3, .int v3)] [] I L Q := by
  refine x_iconst (v := (1 : Int32)) dX10_laysOrders_85 (by decide) ?_
  exact x_goto 90 dX10_laysOrders_86 (by decide) (K)
theorem bX10_laysOrders_89 {I : Nat → Nat → Int32} {L : Nat → Int64} {Q : Option Value → (Nat → Nat → Int32) → (Nat → Int64) → Prop} {v1 : Int32} {v2 : Int32} {v3 : Int32}  (K : XS mX10_laysOrders 90 [(0, .ref 49), (1, .int v1), (2, .int v2), (3, .int v3)] [.int (0 : Int32)] I L Q) : XS mX10_laysOrders 89 [(0, .ref 49), (1, .int v1), (2, .int v2), (3, .int v3)] [] I L Q := by
  refine x_iconst (v := (0 : Int32)) dX10_laysOrders_89 (by decide) ?_
  exact K
theorem bX10_laysOrders_90 {I : Nat → Nat → Int32} {L : Nat → Int64} {Q : Option Value → (Nat → Nat → Int32) → (Nat → Int64) → Prop} {v1 : Int32} {v2 : Int32} {v3 : Int32} {s0 : Int32}  (K1 : (s0 = 0) → XS mX10_laysOrders 106 [(0, .ref 49), (1, .int v1), (2, .int v2), (3, .int v3)] [.int v2, .ref 69] I L Q) (K2 : (¬ s0 = 0) → XS mX10_laysOrders 102 [(0, .ref 49), (1, .int v1), (2, .int v2), (3, .int v3)] [.int v2, .ref 69] I L Q) : XS mX10_laysOrders 90 [(0, .ref 49), (1, .int v1), (2, .int v2), (3, .int v3)] [.int s0] I L Q := by
  refine x_istore [(0, .ref 49), (1, .int v1), (2, .int v2), (3, .int v3), (5, .int s0)] dX10_laysOrders_90 (Nat.le_of_ble_eq_true rfl) rfl ?_
  refine x_aload_n 0 dX10_laysOrders_92 rfl rfl ?_
  refine xs_getr dX10_laysOrders_93 fl_X10_71 sh_49 rfl rf_3170 ?_
  refine x_iload_n 2 dX10_laysOrders_96 rfl rfl ?_
  refine x_iload 4 dX10_laysOrders_97 rfl ?_
  exact x_if_eq 106 dX10_laysOrders_99 (by decide) (fun h => x_sub [0, 1, 2, 3] rfl (K1 h)) (fun h => x_sub [0, 1, 2, 3] rfl (K2 h))
theorem bX10_laysOrders_102 {I : Nat → Nat → Int32} {L : Nat → Int64} {Q : Option Value → (Nat → Nat → Int32) → (Nat → Int64) → Prop} {v1 : Int32} {v2 : Int32} {v3 : Int32} {s1 : Int32}  (K : XS mX10_laysOrders 112 [(0, .ref 49), (1, .int v1), (2, .int v2), (3, .int v3)] [.int (1 : Int32), .int s1, .ref 69] I L Q) : XS mX10_laysOrders 102 [(0, .ref 49), (1, .int v1), (2, .int v2), (3, .int v3)] [.int s1, .ref 69] I L Q := by
  refine x_iconst (v := (1 : Int32)) dX10_laysOrders_102 (by decide) ?_
  exact x_goto 112 dX10_laysOrders_103 (by decide) (K)
theorem bX10_laysOrders_106 {I : Nat → Nat → Int32} {L : Nat → Int64} {Q : Option Value → (Nat → Nat → Int32) → (Nat → Int64) → Prop} {v1 : Int32} {v2 : Int32} {v3 : Int32} {s1 : Int32} (hb1 : vp_in v2 256) (K : XS mX10_laysOrders 112 [(0, .ref 49), (1, .int v1), (2, .int v2), (3, .int v3)] [.int (I 4416 (v2.toNatClampNeg)), .int s1, .ref 69] I L Q) : XS mX10_laysOrders 106 [(0, .ref 49), (1, .int v1), (2, .int v2), (3, .int v3)] [.int s1, .ref 69] I L Q := by
  refine x_aload_n 0 dX10_laysOrders_106 rfl rfl ?_
  refine xs_getr dX10_laysOrders_107 fl_X10_71 sh_49 rfl rf_3170 ?_
  refine x_iload_n 2 dX10_laysOrders_110 rfl rfl ?_
  refine xs_iald 4416 (v2.toNatClampNeg) dX10_laysOrders_111 sh_69 rfl rfl hb1 ?_
  exact K
theorem bX10_laysOrders_112 {I : Nat → Nat → Int32} {L : Nat → Int64} {Q : Option Value → (Nat → Nat → Int32) → (Nat → Int64) → Prop} {v1 : Int32} {v2 : Int32} {v3 : Int32} {s1 : Int32} {s2 : Int32} (hb1 : vp_in s1 256) (K : XS mX10_laysOrders 30 [(0, .ref 49), (1, .int v1), (2, .int v2), (3, .int (v3 + (1 : Int32)))] [] (x_up I 4416 (s1.toNatClampNeg) s2) L Q) : XS mX10_laysOrders 112 [(0, .ref 49), (1, .int v1), (2, .int v2), (3, .int v3)] [.int s2, .int s1, .ref 69] I L Q := by
  refine xs_iast 4416 (s1.toNatClampNeg) dX10_laysOrders_112 sh_69 rfl rfl hb1 ?_
  refine x_iinc 3 (v3 + (1 : Int32)) [(0, .ref 49), (1, .int v1), (2, .int v2), (3, .int (v3 + (1 : Int32)))] dX10_laysOrders_113 rfl rfl (Nat.le_of_ble_eq_true rfl) rfl ?_
  exact x_goto 30 dX10_laysOrders_116 (by decide) (K)
theorem bX10_laysOrders_119 {I : Nat → Nat → Int32} {L : Nat → Int64} {Q : Option Value → (Nat → Nat → Int32) → (Nat → Int64) → Prop} {v1 : Int32} {v2 : Int32}  (K : XS mX10_laysOrders 8 [(0, .ref 49), (1, .int v1), (2, .int (v2 + (-1 : Int32)))] [] I L Q) : XS mX10_laysOrders 119 [(0, .ref 49), (1, .int v1), (2, .int v2)] [] I L Q := by
  refine x_iinc 2 (v2 + (-1 : Int32)) [(0, .ref 49), (1, .int v1), (2, .int (v2 + (-1 : Int32)))] dX10_laysOrders_119 rfl rfl (Nat.le_of_ble_eq_true rfl) rfl ?_
  exact x_goto 8 dX10_laysOrders_122 (by decide) (K)
theorem bX10_laysOrders_125 {I : Nat → Nat → Int32} {L : Nat → Int64} {Q : Option Value → (Nat → Nat → Int32) → (Nat → Int64) → Prop}   (K : Q none I L) : XS mX10_laysOrders 125 [] [] I L Q := by
  exact xs_end dX10_laysOrders_125 rfl K
theorem bX10_order_0 {I : Nat → Nat → Int32} {L : Nat → Int64} {Q : Option Value → (Nat → Nat → Int32) → (Nat → Int64) → Prop} {v1 : Int32}  (K1 : ((-1 : Int32) ≤ v1) → XS mX10_order 8 [(0, .ref 49), (1, .int v1)] [] I L Q) (K2 : (¬ (-1 : Int32) ≤ v1) → XS mX10_order 5 [] [] I L Q) : XS mX10_order 0 [(0, .ref 49), (1, .int v1)] [] I L Q := by
  refine x_iload_n 1 dX10_order_0 rfl rfl ?_
  refine x_iconst (v := (-1 : Int32)) dX10_order_1 (by decide) ?_
  exact x_icmp_ge 8 dX10_order_2 (by decide) (fun h => K1 h) (fun h => x_sub [] rfl (K2 h))
theorem bX10_order_5 {I : Nat → Nat → Int32} {L : Nat → Int64} {Q : Option Value → (Nat → Nat → Int32) → (Nat → Int64) → Prop}   (K : Q (some (.int (-3 : Int32))) I L) : XS mX10_order 5 [] [] I L Q := by
  refine x_bipush (v := (-3 : Int32)) dX10_order_5 (by decide) ?_
  exact xs_iret dX10_order_7 rfl rfl K
theorem bX10_order_8 {I : Nat → Nat → Int32} {L : Nat → Int64} {Q : Option Value → (Nat → Nat → Int32) → (Nat → Int64) → Prop} {v1 : Int32}  (K : XS mX10_behind 0 [(0, .ref 49)] [] I L (fun r I' L' => XS mX10_order 12 [(0, .ref 49), (1, .int v1)] (r.toList ++ []) I' L' Q)) : XS mX10_order 8 [(0, .ref 49), (1, .int v1)] [] I L Q := by
  refine x_aload_n 0 dX10_order_8 rfl rfl ?_
  exact xs_callV mX10_behind [] [] 49 10 0 _ rfl dX10_order_9 ml_X10_249 qX10_behind rfl ⟨Nat.le_of_ble_eq_true rfl, Nat.le_of_ble_eq_true rfl⟩ ⟨rfl, rfl⟩ (Nat.le_of_ble_eq_true rfl) sh_49 (by decide) rfl (Nat.le_of_ble_eq_true rfl) (K)
theorem bX10_order_12 {I : Nat → Nat → Int32} {L : Nat → Int64} {Q : Option Value → (Nat → Nat → Int32) → (Nat → Int64) → Prop} {v1 : Int32} {s0 : Int32}  (K : XS mX10_laysOrders 0 [(0, .ref 49), (1, .int s0)] [] I L (fun r I' L' => XS mX10_order 18 [(0, .ref 49), (1, .int v1), (2, .int s0)] (r.toList ++ []) I' L' Q)) : XS mX10_order 12 [(0, .ref 49), (1, .int v1)] [.int s0] I L Q := by
  refine x_istore_n [(0, .ref 49), (1, .int v1), (2, .int s0)] dX10_order_12 rfl (Nat.le_of_ble_eq_true rfl) rfl ?_
  refine x_aload_n 0 dX10_order_13 rfl rfl ?_
  refine x_iload_n 2 dX10_order_14 rfl rfl ?_
  exact xs_callV mX10_laysOrders [.int s0] [] 49 10 1 _ rfl dX10_order_15 ml_X10_252 qX10_laysOrders rfl ⟨Nat.le_of_ble_eq_true rfl, Nat.le_of_ble_eq_true rfl⟩ ⟨rfl, rfl⟩ (Nat.le_of_ble_eq_true rfl) sh_49 (by decide) rfl (Nat.le_of_ble_eq_true rfl) (K)
theorem bX10_order_18 {I : Nat → Nat → Int32} {L : Nat → Int64} {Q : Option Value → (Nat → Nat → Int32) → (Nat → Int64) → Prop} {v1 : Int32} {v2 : Int32}  (K1 : (¬ (I 4416 0) = 0) → XS mX10_order 30 [(0, .ref 49), (1, .int v1), (2, .int v2)] [] I L Q) (K2 : ((I 4416 0) = 0) → XS mX10_order 27 [] [] I L Q) : XS mX10_order 18 [(0, .ref 49), (1, .int v1), (2, .int v2)] [] I L Q := by
  refine x_aload_n 0 dX10_order_18 rfl rfl ?_
  refine xs_getr dX10_order_19 fl_X10_71 sh_49 rfl rf_3170 ?_
  refine x_iconst (v := (0 : Int32)) dX10_order_22 (by decide) ?_
  refine xs_iald 4416 (0) dX10_order_23 sh_69 rfl (by decide) (x_vpin (by decide)) ?_
  exact x_if_ne 30 dX10_order_24 (by decide) (fun h => K1 h) (fun h => x_sub [] rfl (K2 h))
theorem bX10_order_27 {I : Nat → Nat → Int32} {L : Nat → Int64} {Q : Option Value → (Nat → Nat → Int32) → (Nat → Int64) → Prop}   (K : Q (some (.int (-4 : Int32))) I L) : XS mX10_order 27 [] [] I L Q := by
  refine x_bipush (v := (-4 : Int32)) dX10_order_27 (by decide) ?_
  exact xs_iret dX10_order_29 rfl rfl K
theorem bX10_order_30 {I : Nat → Nat → Int32} {L : Nat → Int64} {Q : Option Value → (Nat → Nat → Int32) → (Nat → Int64) → Prop} {v1 : Int32} {v2 : Int32}  (K1 : (¬ v1 = (-1 : Int32)) → XS mX10_order 40 [(0, .ref 49), (1, .int v1), (2, .int v2)] [] I L Q) (K2 : (v1 = (-1 : Int32)) → XS mX10_order 35 [(2, .int v2)] [] I L Q) : XS mX10_order 30 [(0, .ref 49), (1, .int v1), (2, .int v2)] [] I L Q := by
  refine x_iload_n 1 dX10_order_30 rfl rfl ?_
  refine x_iconst (v := (-1 : Int32)) dX10_order_31 (by decide) ?_
  exact x_icmp_ne 40 dX10_order_32 (by decide) (fun h => K1 h) (fun h => x_sub [2] rfl (K2 h))
theorem bX10_order_35 {I : Nat → Nat → Int32} {L : Nat → Int64} {Q : Option Value → (Nat → Nat → Int32) → (Nat → Int64) → Prop} {v2 : Int32}  (K : XS mX10_ones 0 [(0, .int v2)] [] I L (fun r I' L' => XS mX10_order 39 [] (r.toList ++ []) I' L' Q)) : XS mX10_order 35 [(2, .int v2)] [] I L Q := by
  refine x_iload_n 0 dX10_order_35 rfl rfl ?_
  refine x_sub [] rfl ?_
  exact xs_callS mX10_ones [.int v2] [] 1 _ rfl dX10_order_36 ml_X10_227 qX10_ones rfl ⟨Nat.le_of_ble_eq_true rfl, Nat.le_of_ble_eq_true rfl⟩ ⟨rfl, rfl⟩ (Nat.le_of_ble_eq_true rfl) (Nat.le_of_ble_eq_true rfl) (K)
theorem bX10_order_39 {I : Nat → Nat → Int32} {L : Nat → Int64} {Q : Option Value → (Nat → Nat → Int32) → (Nat → Int64) → Prop} {s0 : Int32}  (K : Q (some (.int s0)) I L) : XS mX10_order 39 [] [.int s0] I L Q := by
  exact xs_iret dX10_order_39 rfl rfl K
theorem bX10_order_40 {I : Nat → Nat → Int32} {L : Nat → Int64} {Q : Option Value → (Nat → Nat → Int32) → (Nat → Int64) → Prop} {v1 : Int32} {v2 : Int32}  (K : XS mX10_order 48 [(0, .ref 49), (1, .int v1), (2, .int v2), (3, .int (0 : Int32)), (4, .int (-1 : Int32)), (5, .int (0 : Int32))] [] I L Q) : XS mX10_order 40 [(0, .ref 49), (1, .int v1), (2, .int v2)] [] I L Q := by
  refine x_iconst (v := (0 : Int32)) dX10_order_40 (by decide) ?_
  refine x_istore_n [(0, .ref 49), (1, .int v1), (2, .int v2), (3, .int (0 : Int32))] dX10_order_41 rfl (Nat.le_of_ble_eq_true rfl) rfl ?_
  refine x_iconst (v := (-1 : Int32)) dX10_order_42 (by decide) ?_
  refine x_istore [(0, .ref 49), (1, .int v1), (2, .int v2), (3, .int (0 : Int32)), (4, .int (-1 : Int32))] dX10_order_43 (Nat.le_of_ble_eq_true rfl) rfl ?_
  refine x_iconst (v := (0 : Int32)) dX10_order_45 (by decide) ?_
  refine x_istore [(0, .ref 49), (1, .int v1), (2, .int v2), (3, .int (0 : Int32)), (4, .int (-1 : Int32)), (5, .int (0 : Int32))] dX10_order_46 (Nat.le_of_ble_eq_true rfl) rfl ?_
  exact K
theorem bX10_order_48 {I : Nat → Nat → Int32} {L : Nat → Int64} {Q : Option Value → (Nat → Nat → Int32) → (Nat → Int64) → Prop} {v1 : Int32} {v2 : Int32} {v3 : Int32} {v4 : Int32} {v5 : Int32}  (K1 : (v1 < v5) → XS mX10_order 121 [(1, .int v1), (2, .int v2), (4, .int v4)] [] I L Q) (K2 : (¬ v1 < v5) → XS mX10_order 54 [(0, .ref 49), (1, .int v1), (2, .int v2), (3, .int v3), (4, .int v4), (5, .int v5)] [] I L Q) : XS mX10_order 48 [(0, .ref 49), (1, .int v1), (2, .int v2), (3, .int v3), (4, .int v4), (5, .int v5)] [] I L Q := by
  refine x_iload 5 dX10_order_48 rfl ?_
  refine x_iload_n 1 dX10_order_50 rfl rfl ?_
  exact x_icmp_gt 121 dX10_order_51 (by decide) (fun h => x_sub [1, 2, 4] rfl (K1 h)) (fun h => K2 h)
theorem bX10_order_54 {I : Nat → Nat → Int32} {L : Nat → Int64} {Q : Option Value → (Nat → Nat → Int32) → (Nat → Int64) → Prop} {v1 : Int32} {v2 : Int32} {v3 : Int32} {v4 : Int32} {v5 : Int32}  (K1 : (v3 = v2) → XS mX10_order 121 [(1, .int v1), (2, .int v2), (4, .int v4)] [] I L Q) (K2 : (¬ v3 = v2) → XS mX10_order 59 [(0, .ref 49), (1, .int v1), (2, .int v2), (3, .int v3), (5, .int v5)] [] I L Q) : XS mX10_order 54 [(0, .ref 49), (1, .int v1), (2, .int v2), (3, .int v3), (4, .int v4), (5, .int v5)] [] I L Q := by
  refine x_iload_n 3 dX10_order_54 rfl rfl ?_
  refine x_iload_n 2 dX10_order_55 rfl rfl ?_
  exact x_icmp_eq 121 dX10_order_56 (by decide) (fun h => x_sub [1, 2, 4] rfl (K1 h)) (fun h => x_sub [0, 1, 2, 3, 5] rfl (K2 h))
theorem bX10_order_59 {I : Nat → Nat → Int32} {L : Nat → Int64} {Q : Option Value → (Nat → Nat → Int32) → (Nat → Int64) → Prop} {v1 : Int32} {v2 : Int32} {v3 : Int32} {v5 : Int32}  (K : XS mX10_order 62 [(0, .ref 49), (1, .int v1), (2, .int v2), (3, .int v3), (4, .int (0 : Int32)), (5, .int v5)] [] I L Q) : XS mX10_order 59 [(0, .ref 49), (1, .int v1), (2, .int v2), (3, .int v3), (5, .int v5)] [] I L Q := by
  refine x_iconst (v := (0 : Int32)) dX10_order_59 (by decide) ?_
  refine x_istore [(0, .ref 49), (1, .int v1), (2, .int v2), (3, .int v3), (4, .int (0 : Int32)), (5, .int v5)] dX10_order_60 (Nat.le_of_ble_eq_true rfl) rfl ?_
  exact K
theorem bX10_order_62 {I : Nat → Nat → Int32} {L : Nat → Int64} {Q : Option Value → (Nat → Nat → Int32) → (Nat → Int64) → Prop} {v1 : Int32} {v2 : Int32} {v3 : Int32} {v4 : Int32} {v5 : Int32}  (K : XS mX10_has 0 [(0, .int (v2 &&& (v3 ^^^ (-1 : Int32)))), (1, .int v4)] [] I L (fun r I' L' => XS mX10_order 72 [(0, .ref 49), (1, .int v1), (2, .int v2), (3, .int v3), (4, .int v4), (5, .int v5)] (r.toList ++ []) I' L' Q)) : XS mX10_order 62 [(0, .ref 49), (1, .int v1), (2, .int v2), (3, .int v3), (4, .int v4), (5, .int v5)] [] I L Q := by
  refine x_iload_n 2 dX10_order_62 rfl rfl ?_
  refine x_iload_n 3 dX10_order_63 rfl rfl ?_
  refine x_iconst (v := (-1 : Int32)) dX10_order_64 (by decide) ?_
  refine x_ixor dX10_order_65 ?_
  refine x_iand dX10_order_66 ?_
  refine x_iload 4 dX10_order_67 rfl ?_
  exact xs_callS mX10_has [.int (v2 &&& (v3 ^^^ (-1 : Int32))), .int v4] [] 2 _ rfl dX10_order_69 ml_X10_93 qX10_has rfl ⟨Nat.le_of_ble_eq_true rfl, Nat.le_of_ble_eq_true rfl⟩ ⟨rfl, rfl⟩ (Nat.le_of_ble_eq_true rfl) (Nat.le_of_ble_eq_true rfl) (K)
theorem bX10_order_72 {I : Nat → Nat → Int32} {L : Nat → Int64} {Q : Option Value → (Nat → Nat → Int32) → (Nat → Int64) → Prop} {v1 : Int32} {v2 : Int32} {v3 : Int32} {v4 : Int32} {v5 : Int32} {s0 : Int32}  (K1 : (s0 = 0) → XS mX10_order 102 [(0, .ref 49), (1, .int v1), (2, .int v2), (3, .int v3), (4, .int v4), (5, .int v5)] [] I L Q) (K2 : (¬ s0 = 0) → XS mX10_order 75 [(0, .ref 49), (1, .int v1), (2, .int v2), (3, .int v3), (4, .int v4), (5, .int v5)] [] I L Q) : XS mX10_order 72 [(0, .ref 49), (1, .int v1), (2, .int v2), (3, .int v3), (4, .int v4), (5, .int v5)] [.int s0] I L Q := by
  exact x_if_eq 102 dX10_order_72 (by decide) (fun h => K1 h) (fun h => K2 h)
theorem bX10_order_75 {I : Nat → Nat → Int32} {L : Nat → Int64} {Q : Option Value → (Nat → Nat → Int32) → (Nat → Int64) → Prop} {v1 : Int32} {v2 : Int32} {v3 : Int32} {v4 : Int32} {v5 : Int32} (hb1 : vp_in (v3 ||| ((1 : Int32) <<< (v4 &&& 31))) 256) (K1 : ((I 4416 ((v3 ||| ((1 : Int32) <<< (v4 &&& 31))).toNatClampNeg)) = 0) → XS mX10_order 102 [(0, .ref 49), (1, .int v1), (2, .int v2), (3, .int v3), (4, .int v4), (5, .int v5)] [] I L Q) (K2 : (¬ (I 4416 ((v3 ||| ((1 : Int32) <<< (v4 &&& 31))).toNatClampNeg)) = 0) → XS mX10_order 89 [(0, .ref 49), (1, .int v1), (2, .int v2), (3, .int v3), (4, .int v4), (5, .int v5)] [] I L Q) : XS mX10_order 75 [(0, .ref 49), (1, .int v1), (2, .int v2), (3, .int v3), (4, .int v4), (5, .int v5)] [] I L Q := by
  refine x_aload_n 0 dX10_order_75 rfl rfl ?_
  refine xs_getr dX10_order_76 fl_X10_71 sh_49 rfl rf_3170 ?_
  refine x_iload_n 3 dX10_order_79 rfl rfl ?_
  refine x_iconst (v := (1 : Int32)) dX10_order_80 (by decide) ?_
  refine x_iload 4 dX10_order_81 rfl ?_
  refine x_ishl dX10_order_83 ?_
  refine x_ior dX10_order_84 ?_
  refine xs_iald 4416 ((v3 ||| ((1 : Int32) <<< (v4 &&& 31))).toNatClampNeg) dX10_order_85 sh_69 rfl rfl hb1 ?_
  exact x_if_eq 102 dX10_order_86 (by decide) (fun h => K1 h) (fun h => K2 h)
theorem bX10_order_89 {I : Nat → Nat → Int32} {L : Nat → Int64} {Q : Option Value → (Nat → Nat → Int32) → (Nat → Int64) → Prop} {v1 : Int32} {v2 : Int32} {v3 : Int32} {v4 : Int32} {v5 : Int32}  (K : XS mX10_isSafe 0 [(0, .ref 49), (1, .int (v3 ||| ((1 : Int32) <<< (v4 &&& 31))))] [] I L (fun r I' L' => XS mX10_order 99 [(0, .ref 49), (1, .int v1), (2, .int v2), (3, .int v3), (4, .int v4), (5, .int v5)] (r.toList ++ []) I' L' Q)) : XS mX10_order 89 [(0, .ref 49), (1, .int v1), (2, .int v2), (3, .int v3), (4, .int v4), (5, .int v5)] [] I L Q := by
  refine x_aload_n 0 dX10_order_89 rfl rfl ?_
  refine x_iload_n 3 dX10_order_90 rfl rfl ?_
  refine x_iconst (v := (1 : Int32)) dX10_order_91 (by decide) ?_
  refine x_iload 4 dX10_order_92 rfl ?_
  refine x_ishl dX10_order_94 ?_
  refine x_ior dX10_order_95 ?_
  exact xs_callV mX10_isSafe [.int (v3 ||| ((1 : Int32) <<< (v4 &&& 31)))] [] 49 10 1 _ rfl dX10_order_96 ml_X10_246 qX10_isSafe rfl ⟨Nat.le_of_ble_eq_true rfl, Nat.le_of_ble_eq_true rfl⟩ ⟨rfl, rfl⟩ (Nat.le_of_ble_eq_true rfl) sh_49 (by decide) rfl (Nat.le_of_ble_eq_true rfl) (K)
theorem bX10_order_99 {I : Nat → Nat → Int32} {L : Nat → Int64} {Q : Option Value → (Nat → Nat → Int32) → (Nat → Int64) → Prop} {v1 : Int32} {v2 : Int32} {v3 : Int32} {v4 : Int32} {v5 : Int32} {s0 : Int32}  (K1 : (¬ s0 = 0) → XS mX10_order 108 [(0, .ref 49), (1, .int v1), (2, .int v2), (3, .int v3), (4, .int v4), (5, .int v5)] [] I L Q) (K2 : (s0 = 0) → XS mX10_order 102 [(0, .ref 49), (1, .int v1), (2, .int v2), (3, .int v3), (4, .int v4), (5, .int v5)] [] I L Q) : XS mX10_order 99 [(0, .ref 49), (1, .int v1), (2, .int v2), (3, .int v3), (4, .int v4), (5, .int v5)] [.int s0] I L Q := by
  exact x_if_ne 108 dX10_order_99 (by decide) (fun h => K1 h) (fun h => K2 h)
theorem bX10_order_102 {I : Nat → Nat → Int32} {L : Nat → Int64} {Q : Option Value → (Nat → Nat → Int32) → (Nat → Int64) → Prop} {v1 : Int32} {v2 : Int32} {v3 : Int32} {v4 : Int32} {v5 : Int32}  (K : XS mX10_order 62 [(0, .ref 49), (1, .int v1), (2, .int v2), (3, .int v3), (4, .int (v4 + (1 : Int32))), (5, .int v5)] [] I L Q) : XS mX10_order 102 [(0, .ref 49), (1, .int v1), (2, .int v2), (3, .int v3), (4, .int v4), (5, .int v5)] [] I L Q := by
  refine x_iinc 4 (v4 + (1 : Int32)) [(0, .ref 49), (1, .int v1), (2, .int v2), (3, .int v3), (4, .int (v4 + (1 : Int32))), (5, .int v5)] dX10_order_102 rfl rfl (Nat.le_of_ble_eq_true rfl) rfl ?_
  exact x_goto 62 dX10_order_105 (by decide) (K)
theorem bX10_order_108 {I : Nat → Nat → Int32} {L : Nat → Int64} {Q : Option Value → (Nat → Nat → Int32) → (Nat → Int64) → Prop} {v1 : Int32} {v2 : Int32} {v3 : Int32} {v4 : Int32} {v5 : Int32}  (K : XS mX10_order 48 [(0, .ref 49), (1, .int v1), (2, .int v2), (3, .int (v3 ||| ((1 : Int32) <<< (v4 &&& 31)))), (4, .int v4), (5, .int (v5 + (1 : Int32)))] [] I L Q) : XS mX10_order 108 [(0, .ref 49), (1, .int v1), (2, .int v2), (3, .int v3), (4, .int v4), (5, .int v5)] [] I L Q := by
  refine x_iload_n 3 dX10_order_108 rfl rfl ?_
  refine x_iconst (v := (1 : Int32)) dX10_order_109 (by decide) ?_
  refine x_iload 4 dX10_order_110 rfl ?_
  refine x_ishl dX10_order_112 ?_
  refine x_ior dX10_order_113 ?_
  refine x_istore_n [(0, .ref 49), (1, .int v1), (2, .int v2), (3, .int (v3 ||| ((1 : Int32) <<< (v4 &&& 31)))), (4, .int v4), (5, .int v5)] dX10_order_114 rfl (Nat.le_of_ble_eq_true rfl) rfl ?_
  refine x_iinc 5 (v5 + (1 : Int32)) [(0, .ref 49), (1, .int v1), (2, .int v2), (3, .int (v3 ||| ((1 : Int32) <<< (v4 &&& 31)))), (4, .int v4), (5, .int (v5 + (1 : Int32)))] dX10_order_115 rfl rfl (Nat.le_of_ble_eq_true rfl) rfl ?_
  exact x_goto 48 dX10_order_118 (by decide) (K)
theorem bX10_order_121 {I : Nat → Nat → Int32} {L : Nat → Int64} {Q : Option Value → (Nat → Nat → Int32) → (Nat → Int64) → Prop} {v1 : Int32} {v2 : Int32} {v4 : Int32}  (K : XS mX10_ones 0 [(0, .int v2)] [] I L (fun r I' L' => XS mX10_order 126 [(4, .int v4)] (r.toList ++ [.int v1]) I' L' Q)) : XS mX10_order 121 [(1, .int v1), (2, .int v2), (4, .int v4)] [] I L Q := by
  refine x_iload_n 0 dX10_order_121 rfl rfl ?_
  refine x_iload_n 1 dX10_order_122 rfl rfl ?_
  refine x_sub [2] rfl ?_
  exact xs_callS mX10_ones [.int v2] [.int v1] 1 _ rfl dX10_order_123 ml_X10_227 qX10_ones rfl ⟨Nat.le_of_ble_eq_true rfl, Nat.le_of_ble_eq_true rfl⟩ ⟨rfl, rfl⟩ (Nat.le_of_ble_eq_true rfl) (Nat.le_of_ble_eq_true rfl) (K)
theorem bX10_order_126 {I : Nat → Nat → Int32} {L : Nat → Int64} {Q : Option Value → (Nat → Nat → Int32) → (Nat → Int64) → Prop} {v4 : Int32} {s0 : Int32} {s1 : Int32}  (K1 : (s1 ≤ s0) → XS mX10_order 134 [] [] I L Q) (K2 : (¬ s1 ≤ s0) → XS mX10_order 129 [(4, .int v4)] [] I L Q) : XS mX10_order 126 [(4, .int v4)] [.int s1, .int s0] I L Q := by
  exact x_icmp_ge 134 dX10_order_126 (by decide) (fun h => x_sub [] rfl (K1 h)) (fun h => K2 h)
theorem bX10_order_129 {I : Nat → Nat → Int32} {L : Nat → Int64} {Q : Option Value → (Nat → Nat → Int32) → (Nat → Int64) → Prop} {v4 : Int32}  (K : XS mX10_order 135 [] [.int v4] I L Q) : XS mX10_order 129 [(4, .int v4)] [] I L Q := by
  refine x_iload 0 dX10_order_129 rfl ?_
  exact x_goto 135 dX10_order_131 (by decide) (x_sub [] rfl (K))
theorem bX10_order_134 {I : Nat → Nat → Int32} {L : Nat → Int64} {Q : Option Value → (Nat → Nat → Int32) → (Nat → Int64) → Prop}   (K : XS mX10_order 135 [] [.int (-1 : Int32)] I L Q) : XS mX10_order 134 [] [] I L Q := by
  refine x_iconst (v := (-1 : Int32)) dX10_order_134 (by decide) ?_
  exact K
theorem bX10_order_135 {I : Nat → Nat → Int32} {L : Nat → Int64} {Q : Option Value → (Nat → Nat → Int32) → (Nat → Int64) → Prop} {s0 : Int32}  (K : Q (some (.int s0)) I L) : XS mX10_order 135 [] [.int s0] I L Q := by
  exact xs_iret dX10_order_135 rfl rfl K
theorem bX10_push_0 {I : Nat → Nat → Int32} {L : Nat → Int64} {Q : Option Value → (Nat → Nat → Int32) → (Nat → Int64) → Prop} {v1 : Int32} {v2 : Int32}  (K : XS mX10_in 0 [(0, .int v1), (1, .int (0 : Int32)), (2, .int (2 : Int32))] [] I L (fun r I' L' => XS mX10_push 6 [(0, .ref 49), (1, .int v1), (2, .int v2)] (r.toList ++ []) I' L' Q)) : XS mX10_push 0 [(0, .ref 49), (1, .int v1), (2, .int v2)] [] I L Q := by
  refine x_iload_n 1 dX10_push_0 rfl rfl ?_
  refine x_iconst (v := (0 : Int32)) dX10_push_1 (by decide) ?_
  refine x_iconst (v := (2 : Int32)) dX10_push_2 (by decide) ?_
  exact xs_callS mX10_in [.int v1, .int (0 : Int32), .int (2 : Int32)] [] 3 _ rfl dX10_push_3 ml_X10_86 qX10_in rfl ⟨Nat.le_of_ble_eq_true rfl, Nat.le_of_ble_eq_true rfl⟩ ⟨rfl, rfl⟩ (Nat.le_of_ble_eq_true rfl) (Nat.le_of_ble_eq_true rfl) (K)
theorem bX10_push_6 {I : Nat → Nat → Int32} {L : Nat → Int64} {Q : Option Value → (Nat → Nat → Int32) → (Nat → Int64) → Prop} {v1 : Int32} {v2 : Int32} {s0 : Int32}  (K1 : (¬ s0 = 0) → XS mX10_push 12 [(0, .ref 49), (1, .int v1), (2, .int v2)] [] I L Q) (K2 : (s0 = 0) → XS mX10_push 9 [] [] I L Q) : XS mX10_push 6 [(0, .ref 49), (1, .int v1), (2, .int v2)] [.int s0] I L Q := by
  exact x_if_ne 12 dX10_push_6 (by decide) (fun h => K1 h) (fun h => x_sub [] rfl (K2 h))
theorem bX10_push_9 {I : Nat → Nat → Int32} {L : Nat → Int64} {Q : Option Value → (Nat → Nat → Int32) → (Nat → Int64) → Prop}   (K : Q (some (.int (-3 : Int32))) I L) : XS mX10_push 9 [] [] I L Q := by
  refine x_bipush (v := (-3 : Int32)) dX10_push_9 (by decide) ?_
  exact xs_iret dX10_push_11 rfl rfl K
theorem bX10_push_12 {I : Nat → Nat → Int32} {L : Nat → Int64} {Q : Option Value → (Nat → Nat → Int32) → (Nat → Int64) → Prop} {v1 : Int32} {v2 : Int32}  (K1 : (¬ v1 = (2 : Int32)) → XS mX10_push 28 [(0, .ref 49), (1, .int v1), (2, .int v2)] [] I L Q) (K2 : (v1 = (2 : Int32)) → XS mX10_push 17 [(0, .ref 49), (1, .int v1), (2, .int v2)] [] I L Q) : XS mX10_push 12 [(0, .ref 49), (1, .int v1), (2, .int v2)] [] I L Q := by
  refine x_iload_n 1 dX10_push_12 rfl rfl ?_
  refine x_iconst (v := (2 : Int32)) dX10_push_13 (by decide) ?_
  exact x_icmp_ne 28 dX10_push_14 (by decide) (fun h => K1 h) (fun h => K2 h)
theorem bX10_push_17 {I : Nat → Nat → Int32} {L : Nat → Int64} {Q : Option Value → (Nat → Nat → Int32) → (Nat → Int64) → Prop} {v1 : Int32} {v2 : Int32}  (K : XS mX10_isLink 0 [(0, .ref 49), (1, .int v2)] [] I L (fun r I' L' => XS mX10_push 22 [(0, .ref 49), (1, .int v1), (2, .int v2)] (r.toList ++ []) I' L' Q)) : XS mX10_push 17 [(0, .ref 49), (1, .int v1), (2, .int v2)] [] I L Q := by
  refine x_aload_n 0 dX10_push_17 rfl rfl ?_
  refine x_iload_n 2 dX10_push_18 rfl rfl ?_
  exact xs_callV mX10_isLink [.int v2] [] 49 10 1 _ rfl dX10_push_19 ml_X10_221 qX10_isLink rfl ⟨Nat.le_of_ble_eq_true rfl, Nat.le_of_ble_eq_true rfl⟩ ⟨rfl, rfl⟩ (Nat.le_of_ble_eq_true rfl) sh_49 (by decide) rfl (Nat.le_of_ble_eq_true rfl) (K)
theorem bX10_push_22 {I : Nat → Nat → Int32} {L : Nat → Int64} {Q : Option Value → (Nat → Nat → Int32) → (Nat → Int64) → Prop} {v1 : Int32} {v2 : Int32} {s0 : Int32}  (K1 : (¬ s0 = 0) → XS mX10_push 39 [(0, .ref 49), (1, .int v1), (2, .int v2)] [] I L Q) (K2 : (s0 = 0) → XS mX10_push 25 [] [] I L Q) : XS mX10_push 22 [(0, .ref 49), (1, .int v1), (2, .int v2)] [.int s0] I L Q := by
  exact x_if_ne 39 dX10_push_22 (by decide) (fun h => K1 h) (fun h => x_sub [] rfl (K2 h))
theorem bX10_push_25 {I : Nat → Nat → Int32} {L : Nat → Int64} {Q : Option Value → (Nat → Nat → Int32) → (Nat → Int64) → Prop}   (K : XS mX10_push 36 [] [] I L Q) : XS mX10_push 25 [] [] I L Q := by
  exact x_goto 36 dX10_push_25 (by decide) (K)
theorem bX10_push_28 {I : Nat → Nat → Int32} {L : Nat → Int64} {Q : Option Value → (Nat → Nat → Int32) → (Nat → Int64) → Prop} {v1 : Int32} {v2 : Int32}  (K : XS mX10_isNode 0 [(0, .ref 49), (1, .int v2)] [] I L (fun r I' L' => XS mX10_push 33 [(0, .ref 49), (1, .int v1), (2, .int v2)] (r.toList ++ []) I' L' Q)) : XS mX10_push 28 [(0, .ref 49), (1, .int v1), (2, .int v2)] [] I L Q := by
  refine x_aload_n 0 dX10_push_28 rfl rfl ?_
  refine x_iload_n 2 dX10_push_29 rfl rfl ?_
  exact xs_callV mX10_isNode [.int v2] [] 49 10 1 _ rfl dX10_push_30 ml_X10_234 qX10_isNode rfl ⟨Nat.le_of_ble_eq_true rfl, Nat.le_of_ble_eq_true rfl⟩ ⟨rfl, rfl⟩ (Nat.le_of_ble_eq_true rfl) sh_49 (by decide) rfl (Nat.le_of_ble_eq_true rfl) (K)
theorem bX10_push_33 {I : Nat → Nat → Int32} {L : Nat → Int64} {Q : Option Value → (Nat → Nat → Int32) → (Nat → Int64) → Prop} {v1 : Int32} {v2 : Int32} {s0 : Int32}  (K1 : (¬ s0 = 0) → XS mX10_push 39 [(0, .ref 49), (1, .int v1), (2, .int v2)] [] I L Q) (K2 : (s0 = 0) → XS mX10_push 36 [] [] I L Q) : XS mX10_push 33 [(0, .ref 49), (1, .int v1), (2, .int v2)] [.int s0] I L Q := by
  exact x_if_ne 39 dX10_push_33 (by decide) (fun h => K1 h) (fun h => x_sub [] rfl (K2 h))
theorem bX10_push_36 {I : Nat → Nat → Int32} {L : Nat → Int64} {Q : Option Value → (Nat → Nat → Int32) → (Nat → Int64) → Prop}   (K : Q (some (.int (-2 : Int32))) I L) : XS mX10_push 36 [] [] I L Q := by
  refine x_bipush (v := (-2 : Int32)) dX10_push_36 (by decide) ?_
  exact xs_iret dX10_push_38 rfl rfl K
theorem bX10_push_39 {I : Nat → Nat → Int32} {L : Nat → Int64} {Q : Option Value → (Nat → Nat → Int32) → (Nat → Int64) → Prop} {v1 : Int32} {v2 : Int32}  (K1 : (¬ (I 3144 0) = (8 : Int32)) → XS mX10_push 51 [(0, .ref 49), (1, .int v1), (2, .int v2)] [] I L Q) (K2 : ((I 3144 0) = (8 : Int32)) → XS mX10_push 48 [] [] I L Q) : XS mX10_push 39 [(0, .ref 49), (1, .int v1), (2, .int v2)] [] I L Q := by
  refine x_aload_n 0 dX10_push_39 rfl rfl ?_
  refine xs_geti 3144 dX10_push_40 fl_X10_174 sh_49 rfl rfl ?_
  refine x_bipush (v := (8 : Int32)) dX10_push_43 (by decide) ?_
  exact x_icmp_ne 51 dX10_push_45 (by decide) (fun h => K1 h) (fun h => x_sub [] rfl (K2 h))
theorem bX10_push_48 {I : Nat → Nat → Int32} {L : Nat → Int64} {Q : Option Value → (Nat → Nat → Int32) → (Nat → Int64) → Prop}   (K : Q (some (.int (-5 : Int32))) I L) : XS mX10_push 48 [] [] I L Q := by
  refine x_bipush (v := (-5 : Int32)) dX10_push_48 (by decide) ?_
  exact xs_iret dX10_push_50 rfl rfl K
theorem bX10_push_51 {I : Nat → Nat → Int32} {L : Nat → Int64} {Q : Option Value → (Nat → Nat → Int32) → (Nat → Int64) → Prop} {v1 : Int32} {v2 : Int32} (hb1 : vp_in (I 3144 0) 8) (hb2 : vp_in ((x_up I 3520 ((I 3144 0).toNatClampNeg) v1) 3144 0) 8) (K : Q (some (.int ((x_up (x_up (x_up I 3520 ((I 3144 0).toNatClampNeg) v1) 3584 (((x_up I 3520 ((I 3144 0).toNatClampNeg) v1) 3144 0).toNatClampNeg) v2) 3144 0 (((x_up (x_up I 3520 ((I 3144 0).toNatClampNeg) v1) 3584 (((x_up I 3520 ((I 3144 0).toNatClampNeg) v1) 3144 0).toNatClampNeg) v2) 3144 0) + (1 : Int32))) 3144 0))) (x_up (x_up (x_up I 3520 ((I 3144 0).toNatClampNeg) v1) 3584 (((x_up I 3520 ((I 3144 0).toNatClampNeg) v1) 3144 0).toNatClampNeg) v2) 3144 0 (((x_up (x_up I 3520 ((I 3144 0).toNatClampNeg) v1) 3584 (((x_up I 3520 ((I 3144 0).toNatClampNeg) v1) 3144 0).toNatClampNeg) v2) 3144 0) + (1 : Int32))) L) : XS mX10_push 51 [(0, .ref 49), (1, .int v1), (2, .int v2)] [] I L Q := by
  refine x_aload_n 0 dX10_push_51 rfl rfl ?_
  refine xs_getr dX10_push_52 fl_X10_29 sh_49 rfl rf_3145 ?_
  refine x_aload_n 0 dX10_push_55 rfl rfl ?_
  refine xs_geti 3144 dX10_push_56 fl_X10_174 sh_49 rfl rfl ?_
  refine x_iload_n 1 dX10_push_59 rfl rfl ?_
  refine xs_iast 3520 ((I 3144 0).toNatClampNeg) dX10_push_60 sh_55 rfl rfl hb1 ?_
  refine x_aload_n 0 dX10_push_61 rfl rfl ?_
  refine xs_getr dX10_push_62 fl_X10_32 sh_49 rfl rf_3146 ?_
  refine x_aload_n 0 dX10_push_65 rfl rfl ?_
  refine xs_geti 3144 dX10_push_66 fl_X10_174 sh_49 rfl rfl ?_
  refine x_iload_n 2 dX10_push_69 rfl rfl ?_
  refine xs_iast 3584 (((x_up I 3520 ((I 3144 0).toNatClampNeg) v1) 3144 0).toNatClampNeg) dX10_push_70 sh_56 rfl rfl hb2 ?_
  refine x_aload_n 0 dX10_push_71 rfl rfl ?_
  refine x_dup dX10_push_72 rfl ?_
  refine xs_geti 3144 dX10_push_73 fl_X10_174 sh_49 rfl rfl ?_
  refine x_iconst (v := (1 : Int32)) dX10_push_76 (by decide) ?_
  refine x_iadd dX10_push_77 ?_
  refine xs_puti 3144 dX10_push_78 fl_X10_174 sh_49 rfl rfl rfl ?_
  refine x_aload_n 0 dX10_push_81 rfl rfl ?_
  refine xs_geti 3144 dX10_push_82 fl_X10_174 sh_49 rfl rfl ?_
  exact xs_iret dX10_push_85 rfl rfl K
theorem bX10_clear_0 {I : Nat → Nat → Int32} {L : Nat → Int64} {Q : Option Value → (Nat → Nat → Int32) → (Nat → Int64) → Prop}   (K : Q (some (.int (I 3144 0))) (x_up I 3144 0 (0 : Int32)) L) : XS mX10_clear 0 [(0, .ref 49)] [] I L Q := by
  refine x_aload_n 0 dX10_clear_0 rfl rfl ?_
  refine xs_geti 3144 dX10_clear_1 fl_X10_174 sh_49 rfl rfl ?_
  refine x_istore_n [(0, .ref 49), (1, .int (I 3144 0))] dX10_clear_4 rfl (Nat.le_of_ble_eq_true rfl) rfl ?_
  refine x_aload_n 0 dX10_clear_5 rfl rfl ?_
  refine x_iconst (v := (0 : Int32)) dX10_clear_6 (by decide) ?_
  refine xs_puti 3144 dX10_clear_7 fl_X10_174 sh_49 rfl rfl rfl ?_
  refine x_iload_n 1 dX10_clear_10 rfl rfl ?_
  exact xs_iret dX10_clear_11 rfl rfl K
theorem bX10_segment_0 {I : Nat → Nat → Int32} {L : Nat → Int64} {Q : Option Value → (Nat → Nat → Int32) → (Nat → Int64) → Prop} {v1 : Int32} {v2 : Int32}  (K : XS mX10_in 0 [(0, .int v1), (1, .int (0 : Int32)), (2, .int ((I 3144 0) - (1 : Int32)))] [] I L (fun r I' L' => XS mX10_segment 11 [(0, .ref 49), (1, .int v1), (2, .int v2)] (r.toList ++ []) I' L' Q)) : XS mX10_segment 0 [(0, .ref 49), (1, .int v1), (2, .int v2)] [] I L Q := by
  refine x_iload_n 1 dX10_segment_0 rfl rfl ?_
  refine x_iconst (v := (0 : Int32)) dX10_segment_1 (by decide) ?_
  refine x_aload_n 0 dX10_segment_2 rfl rfl ?_
  refine xs_geti 3144 dX10_segment_3 fl_X10_174 sh_49 rfl rfl ?_
  refine x_iconst (v := (1 : Int32)) dX10_segment_6 (by decide) ?_
  refine x_isub dX10_segment_7 ?_
  exact xs_callS mX10_in [.int v1, .int (0 : Int32), .int ((I 3144 0) - (1 : Int32))] [] 3 _ rfl dX10_segment_8 ml_X10_86 qX10_in rfl ⟨Nat.le_of_ble_eq_true rfl, Nat.le_of_ble_eq_true rfl⟩ ⟨rfl, rfl⟩ (Nat.le_of_ble_eq_true rfl) (Nat.le_of_ble_eq_true rfl) (K)
theorem bX10_segment_11 {I : Nat → Nat → Int32} {L : Nat → Int64} {Q : Option Value → (Nat → Nat → Int32) → (Nat → Int64) → Prop} {v1 : Int32} {v2 : Int32} {s0 : Int32}  (K1 : (¬ s0 = 0) → XS mX10_segment 17 [(0, .ref 49), (1, .int v1), (2, .int v2)] [] I L Q) (K2 : (s0 = 0) → XS mX10_segment 14 [] [] I L Q) : XS mX10_segment 11 [(0, .ref 49), (1, .int v1), (2, .int v2)] [.int s0] I L Q := by
  exact x_if_ne 17 dX10_segment_11 (by decide) (fun h => K1 h) (fun h => x_sub [] rfl (K2 h))
theorem bX10_segment_14 {I : Nat → Nat → Int32} {L : Nat → Int64} {Q : Option Value → (Nat → Nat → Int32) → (Nat → Int64) → Prop}   (K : Q (some (.int (-2 : Int32))) I L) : XS mX10_segment 14 [] [] I L Q := by
  refine x_bipush (v := (-2 : Int32)) dX10_segment_14 (by decide) ?_
  exact xs_iret dX10_segment_16 rfl rfl K
theorem bX10_segment_17 {I : Nat → Nat → Int32} {L : Nat → Int64} {Q : Option Value → (Nat → Nat → Int32) → (Nat → Int64) → Prop} {v1 : Int32} {v2 : Int32}  (K : XS mX10_in 0 [(0, .int v2), (1, .int (0 : Int32)), (2, .int (1 : Int32))] [] I L (fun r I' L' => XS mX10_segment 23 [(0, .ref 49), (1, .int v1), (2, .int v2)] (r.toList ++ []) I' L' Q)) : XS mX10_segment 17 [(0, .ref 49), (1, .int v1), (2, .int v2)] [] I L Q := by
  refine x_iload_n 2 dX10_segment_17 rfl rfl ?_
  refine x_iconst (v := (0 : Int32)) dX10_segment_18 (by decide) ?_
  refine x_iconst (v := (1 : Int32)) dX10_segment_19 (by decide) ?_
  exact xs_callS mX10_in [.int v2, .int (0 : Int32), .int (1 : Int32)] [] 3 _ rfl dX10_segment_20 ml_X10_86 qX10_in rfl ⟨Nat.le_of_ble_eq_true rfl, Nat.le_of_ble_eq_true rfl⟩ ⟨rfl, rfl⟩ (Nat.le_of_ble_eq_true rfl) (Nat.le_of_ble_eq_true rfl) (K)
theorem bX10_segment_23 {I : Nat → Nat → Int32} {L : Nat → Int64} {Q : Option Value → (Nat → Nat → Int32) → (Nat → Int64) → Prop} {v1 : Int32} {v2 : Int32} {s0 : Int32}  (K1 : (¬ s0 = 0) → XS mX10_segment 29 [(0, .ref 49), (1, .int v1), (2, .int v2)] [] I L Q) (K2 : (s0 = 0) → XS mX10_segment 26 [] [] I L Q) : XS mX10_segment 23 [(0, .ref 49), (1, .int v1), (2, .int v2)] [.int s0] I L Q := by
  exact x_if_ne 29 dX10_segment_23 (by decide) (fun h => K1 h) (fun h => x_sub [] rfl (K2 h))
theorem bX10_segment_26 {I : Nat → Nat → Int32} {L : Nat → Int64} {Q : Option Value → (Nat → Nat → Int32) → (Nat → Int64) → Prop}   (K : Q (some (.int (-3 : Int32))) I L) : XS mX10_segment 26 [] [] I L Q := by
  refine x_bipush (v := (-3 : Int32)) dX10_segment_26 (by decide) ?_
  exact xs_iret dX10_segment_28 rfl rfl K
theorem bX10_segment_29 {I : Nat → Nat → Int32} {L : Nat → Int64} {Q : Option Value → (Nat → Nat → Int32) → (Nat → Int64) → Prop} {v1 : Int32} {v2 : Int32}  (K1 : (¬ v2 = 0) → XS mX10_segment 42 [(0, .ref 49), (1, .int v1)] [] I L Q) (K2 : (v2 = 0) → XS mX10_segment 33 [(0, .ref 49), (1, .int v1)] [] I L Q) : XS mX10_segment 29 [(0, .ref 49), (1, .int v1), (2, .int v2)] [] I L Q := by
  refine x_iload_n 2 dX10_segment_29 rfl rfl ?_
  exact x_if_ne 42 dX10_segment_30 (by decide) (fun h => x_sub [0, 1] rfl (K1 h)) (fun h => x_sub [0, 1] rfl (K2 h))
theorem bX10_segment_33 {I : Nat → Nat → Int32} {L : Nat → Int64} {Q : Option Value → (Nat → Nat → Int32) → (Nat → Int64) → Prop} {v1 : Int32} (hb1 : vp_in v1 8) (K : XS mX10_segment 48 [] [.int (I 3520 (v1.toNatClampNeg))] I L Q) : XS mX10_segment 33 [(0, .ref 49), (1, .int v1)] [] I L Q := by
  refine x_aload_n 0 dX10_segment_33 rfl rfl ?_
  refine xs_getr dX10_segment_34 fl_X10_29 sh_49 rfl rf_3145 ?_
  refine x_iload_n 1 dX10_segment_37 rfl rfl ?_
  refine xs_iald 3520 (v1.toNatClampNeg) dX10_segment_38 sh_55 rfl rfl hb1 ?_
  exact x_goto 48 dX10_segment_39 (by decide) (x_sub [] rfl (K))
theorem bX10_segment_42 {I : Nat → Nat → Int32} {L : Nat → Int64} {Q : Option Value → (Nat → Nat → Int32) → (Nat → Int64) → Prop} {v1 : Int32} (hb1 : vp_in v1 8) (K : XS mX10_segment 48 [] [.int (I 3584 (v1.toNatClampNeg))] I L Q) : XS mX10_segment 42 [(0, .ref 49), (1, .int v1)] [] I L Q := by
  refine x_aload_n 0 dX10_segment_42 rfl rfl ?_
  refine xs_getr dX10_segment_43 fl_X10_32 sh_49 rfl rf_3146 ?_
  refine x_iload_n 1 dX10_segment_46 rfl rfl ?_
  refine xs_iald 3584 (v1.toNatClampNeg) dX10_segment_47 sh_56 rfl rfl hb1 ?_
  exact x_sub [] rfl (K)
theorem bX10_segment_48 {I : Nat → Nat → Int32} {L : Nat → Int64} {Q : Option Value → (Nat → Nat → Int32) → (Nat → Int64) → Prop} {s0 : Int32}  (K : Q (some (.int s0)) I L) : XS mX10_segment 48 [] [.int s0] I L Q := by
  exact xs_iret dX10_segment_48 rfl rfl K
theorem bX10_repair_0 {I : Nat → Nat → Int32} {L : Nat → Int64} {Q : Option Value → (Nat → Nat → Int32) → (Nat → Int64) → Prop} {v1 : Int32} {v2 : Int32} {v3 : Int32} {v4 : Int32}  (K : XS mX10_isNode 0 [(0, .ref 49), (1, .int v1)] [] I L (fun r I' L' => XS mX10_repair 5 [(0, .ref 49), (1, .int v1), (2, .int v2), (3, .int v3), (4, .int v4)] (r.toList ++ []) I' L' Q)) : XS mX10_repair 0 [(0, .ref 49), (1, .int v1), (2, .int v2), (3, .int v3), (4, .int v4)] [] I L Q := by
  refine x_aload_n 0 dX10_repair_0 rfl rfl ?_
  refine x_iload_n 1 dX10_repair_1 rfl rfl ?_
  exact xs_callV mX10_isNode [.int v1] [] 49 10 1 _ rfl dX10_repair_2 ml_X10_234 qX10_isNode rfl ⟨Nat.le_of_ble_eq_true rfl, Nat.le_of_ble_eq_true rfl⟩ ⟨rfl, rfl⟩ (Nat.le_of_ble_eq_true rfl) sh_49 (by decide) rfl (Nat.le_of_ble_eq_true rfl) (K)
theorem bX10_repair_5 {I : Nat → Nat → Int32} {L : Nat → Int64} {Q : Option Value → (Nat → Nat → Int32) → (Nat → Int64) → Prop} {v1 : Int32} {v2 : Int32} {v3 : Int32} {v4 : Int32} {s0 : Int32}  (K1 : (s0 = 0) → XS mX10_repair 29 [] [] I L Q) (K2 : (¬ s0 = 0) → XS mX10_repair 8 [(0, .ref 49), (1, .int v1), (2, .int v2), (3, .int v3), (4, .int v4)] [] I L Q) : XS mX10_repair 5 [(0, .ref 49), (1, .int v1), (2, .int v2), (3, .int v3), (4, .int v4)] [.int s0] I L Q := by
  exact x_if_eq 29 dX10_repair_5 (by decide) (fun h => x_sub [] rfl (K1 h)) (fun h => K2 h)
theorem bX10_repair_8 {I : Nat → Nat → Int32} {L : Nat → Int64} {Q : Option Value → (Nat → Nat → Int32) → (Nat → Int64) → Prop} {v1 : Int32} {v2 : Int32} {v3 : Int32} {v4 : Int32}  (K : XS mX10_isLink 0 [(0, .ref 49), (1, .int v2)] [] I L (fun r I' L' => XS mX10_repair 13 [(0, .ref 49), (1, .int v1), (2, .int v2), (3, .int v3), (4, .int v4)] (r.toList ++ []) I' L' Q)) : XS mX10_repair 8 [(0, .ref 49), (1, .int v1), (2, .int v2), (3, .int v3), (4, .int v4)] [] I L Q := by
  refine x_aload_n 0 dX10_repair_8 rfl rfl ?_
  refine x_iload_n 2 dX10_repair_9 rfl rfl ?_
  exact xs_callV mX10_isLink [.int v2] [] 49 10 1 _ rfl dX10_repair_10 ml_X10_221 qX10_isLink rfl ⟨Nat.le_of_ble_eq_true rfl, Nat.le_of_ble_eq_true rfl⟩ ⟨rfl, rfl⟩ (Nat.le_of_ble_eq_true rfl) sh_49 (by decide) rfl (Nat.le_of_ble_eq_true rfl) (K)
theorem bX10_repair_13 {I : Nat → Nat → Int32} {L : Nat → Int64} {Q : Option Value → (Nat → Nat → Int32) → (Nat → Int64) → Prop} {v1 : Int32} {v2 : Int32} {v3 : Int32} {v4 : Int32} {s0 : Int32}  (K1 : (s0 = 0) → XS mX10_repair 29 [] [] I L Q) (K2 : (¬ s0 = 0) → XS mX10_repair 16 [(0, .ref 49), (1, .int v1), (2, .int v2), (3, .int v3), (4, .int v4)] [] I L Q) : XS mX10_repair 13 [(0, .ref 49), (1, .int v1), (2, .int v2), (3, .int v3), (4, .int v4)] [.int s0] I L Q := by
  exact x_if_eq 29 dX10_repair_13 (by decide) (fun h => x_sub [] rfl (K1 h)) (fun h => K2 h)
theorem bX10_repair_16 {I : Nat → Nat → Int32} {L : Nat → Int64} {Q : Option Value → (Nat → Nat → Int32) → (Nat → Int64) → Prop} {v1 : Int32} {v2 : Int32} {v3 : Int32} {v4 : Int32}  (K : XS mX10_isNode 0 [(0, .ref 49), (1, .int v3)] [] I L (fun r I' L' => XS mX10_repair 21 [(0, .ref 49), (1, .int v1), (2, .int v2), (3, .int v3), (4, .int v4)] (r.toList ++ []) I' L' Q)) : XS mX10_repair 16 [(0, .ref 49), (1, .int v1), (2, .int v2), (3, .int v3), (4, .int v4)] [] I L Q := by
  refine x_aload_n 0 dX10_repair_16 rfl rfl ?_
  refine x_iload_n 3 dX10_repair_17 rfl rfl ?_
  exact xs_callV mX10_isNode [.int v3] [] 49 10 1 _ rfl dX10_repair_18 ml_X10_234 qX10_isNode rfl ⟨Nat.le_of_ble_eq_true rfl, Nat.le_of_ble_eq_true rfl⟩ ⟨rfl, rfl⟩ (Nat.le_of_ble_eq_true rfl) sh_49 (by decide) rfl (Nat.le_of_ble_eq_true rfl) (K)
theorem bX10_repair_21 {I : Nat → Nat → Int32} {L : Nat → Int64} {Q : Option Value → (Nat → Nat → Int32) → (Nat → Int64) → Prop} {v1 : Int32} {v2 : Int32} {v3 : Int32} {v4 : Int32} {s0 : Int32}  (K1 : (s0 = 0) → XS mX10_repair 29 [] [] I L Q) (K2 : (¬ s0 = 0) → XS mX10_repair 24 [(0, .ref 49), (1, .int v1), (2, .int v2), (3, .int v3), (4, .int v4)] [] I L Q) : XS mX10_repair 21 [(0, .ref 49), (1, .int v1), (2, .int v2), (3, .int v3), (4, .int v4)] [.int s0] I L Q := by
  exact x_if_eq 29 dX10_repair_21 (by decide) (fun h => x_sub [] rfl (K1 h)) (fun h => K2 h)
theorem bX10_repair_24 {I : Nat → Nat → Int32} {L : Nat → Int64} {Q : Option Value → (Nat → Nat → Int32) → (Nat → Int64) → Prop} {v1 : Int32} {v2 : Int32} {v3 : Int32} {v4 : Int32}  (K1 : (¬ v1 = v3) → XS mX10_repair 32 [(0, .ref 49), (1, .int v1), (2, .int v2), (3, .int v3), (4, .int v4)] [] I L Q) (K2 : (v1 = v3) → XS mX10_repair 29 [] [] I L Q) : XS mX10_repair 24 [(0, .ref 49), (1, .int v1), (2, .int v2), (3, .int v3), (4, .int v4)] [] I L Q := by
  refine x_iload_n 1 dX10_repair_24 rfl rfl ?_
  refine x_iload_n 3 dX10_repair_25 rfl rfl ?_
  exact x_icmp_ne 32 dX10_repair_26 (by decide) (fun h => K1 h) (fun h => x_sub [] rfl (K2 h))
theorem bX10_repair_29 {I : Nat → Nat → Int32} {L : Nat → Int64} {Q : Option Value → (Nat → Nat → Int32) → (Nat → Int64) → Prop}   (K : Q (some (.int (-2 : Int32))) I L) : XS mX10_repair 29 [] [] I L Q := by
  refine x_bipush (v := (-2 : Int32)) dX10_repair_29 (by decide) ?_
  exact xs_iret dX10_repair_31 rfl rfl K
theorem bX10_repair_32 {I : Nat → Nat → Int32} {L : Nat → Int64} {Q : Option Value → (Nat → Nat → Int32) → (Nat → Int64) → Prop} {v1 : Int32} {v2 : Int32} {v3 : Int32} {v4 : Int32}  (K1 : ((-1 : Int32) ≤ v4) → XS mX10_repair 41 [(0, .ref 49), (1, .int v1), (2, .int v2), (3, .int v3), (4, .int v4)] [] I L Q) (K2 : (¬ (-1 : Int32) ≤ v4) → XS mX10_repair 38 [] [] I L Q) : XS mX10_repair 32 [(0, .ref 49), (1, .int v1), (2, .int v2), (3, .int v3), (4, .int v4)] [] I L Q := by
  refine x_iload 4 dX10_repair_32 rfl ?_
  refine x_iconst (v := (-1 : Int32)) dX10_repair_34 (by decide) ?_
  exact x_icmp_ge 41 dX10_repair_35 (by decide) (fun h => K1 h) (fun h => x_sub [] rfl (K2 h))
theorem bX10_repair_38 {I : Nat → Nat → Int32} {L : Nat → Int64} {Q : Option Value → (Nat → Nat → Int32) → (Nat → Int64) → Prop}   (K : Q (some (.int (-3 : Int32))) I L) : XS mX10_repair 38 [] [] I L Q := by
  refine x_bipush (v := (-3 : Int32)) dX10_repair_38 (by decide) ?_
  exact xs_iret dX10_repair_40 rfl rfl K
theorem bX10_repair_41 {I : Nat → Nat → Int32} {L : Nat → Int64} {Q : Option Value → (Nat → Nat → Int32) → (Nat → Int64) → Prop} {v1 : Int32} {v2 : Int32} {v3 : Int32} {v4 : Int32}  (K : XS mX10_repairs 0 [(0, .ref 49), (1, .int v1), (2, .int v2), (3, .int v3)] [] I L (fun r I' L' => XS mX10_repair 48 [(0, .ref 49), (4, .int v4)] (r.toList ++ []) I' L' Q)) : XS mX10_repair 41 [(0, .ref 49), (1, .int v1), (2, .int v2), (3, .int v3), (4, .int v4)] [] I L Q := by
  refine x_aload_n 0 dX10_repair_41 rfl rfl ?_
  refine x_iload_n 1 dX10_repair_42 rfl rfl ?_
  refine x_iload_n 2 dX10_repair_43 rfl rfl ?_
  refine x_iload_n 3 dX10_repair_44 rfl rfl ?_
  refine x_sub [0, 4] rfl ?_
  exact xs_callV mX10_repairs [.int v1, .int v2, .int v3] [] 49 10 3 _ rfl dX10_repair_45 ml_X10_256 qX10_repairs rfl ⟨Nat.le_of_ble_eq_true rfl, Nat.le_of_ble_eq_true rfl⟩ ⟨rfl, rfl⟩ (Nat.le_of_ble_eq_true rfl) sh_49 (by decide) rfl (Nat.le_of_ble_eq_true rfl) (K)
theorem bX10_repair_48 {I : Nat → Nat → Int32} {L : Nat → Int64} {Q : Option Value → (Nat → Nat → Int32) → (Nat → Int64) → Prop} {v4 : Int32} {s0 : Int32}  (K1 : (s0 = 0) → XS mX10_repair 60 [] [] I L Q) (K2 : (¬ s0 = 0) → XS mX10_repair 51 [(0, .ref 49), (4, .int v4)] [] I L Q) : XS mX10_repair 48 [(0, .ref 49), (4, .int v4)] [.int s0] I L Q := by
  exact x_if_eq 60 dX10_repair_48 (by decide) (fun h => x_sub [] rfl (K1 h)) (fun h => K2 h)
theorem bX10_repair_51 {I : Nat → Nat → Int32} {L : Nat → Int64} {Q : Option Value → (Nat → Nat → Int32) → (Nat → Int64) → Prop} {v4 : Int32}  (K : XS mX10_shortAt 0 [(0, .ref 49), (1, .int v4)] [] I L (fun r I' L' => XS mX10_repair 57 [] (r.toList ++ []) I' L' Q)) : XS mX10_repair 51 [(0, .ref 49), (4, .int v4)] [] I L Q := by
  refine x_aload_n 0 dX10_repair_51 rfl rfl ?_
  refine x_iload 1 dX10_repair_52 rfl ?_
  refine x_sub [] rfl ?_
  exact xs_callV mX10_shortAt [.int v4] [] 49 10 1 _ rfl dX10_repair_54 ml_X10_259 qX10_shortAt rfl ⟨Nat.le_of_ble_eq_true rfl, Nat.le_of_ble_eq_true rfl⟩ ⟨rfl, rfl⟩ (Nat.le_of_ble_eq_true rfl) sh_49 (by decide) rfl (Nat.le_of_ble_eq_true rfl) (K)
theorem bX10_repair_57 {I : Nat → Nat → Int32} {L : Nat → Int64} {Q : Option Value → (Nat → Nat → Int32) → (Nat → Int64) → Prop} {s0 : Int32}  (K : XS mX10_repair 62 [] [.int s0] I L Q) : XS mX10_repair 57 [] [.int s0] I L Q := by
  exact x_goto 62 dX10_repair_57 (by decide) (K)
theorem bX10_repair_60 {I : Nat → Nat → Int32} {L : Nat → Int64} {Q : Option Value → (Nat → Nat → Int32) → (Nat → Int64) → Prop}   (K : XS mX10_repair 62 [] [.int (-4 : Int32)] I L Q) : XS mX10_repair 60 [] [] I L Q := by
  refine x_bipush (v := (-4 : Int32)) dX10_repair_60 (by decide) ?_
  exact K
theorem bX10_repair_62 {I : Nat → Nat → Int32} {L : Nat → Int64} {Q : Option Value → (Nat → Nat → Int32) → (Nat → Int64) → Prop} {s0 : Int32}  (K : Q (some (.int s0)) I L) : XS mX10_repair 62 [] [.int s0] I L Q := by
  exact xs_iret dX10_repair_62 rfl rfl K
theorem bX10_trace_0 {I : Nat → Nat → Int32} {L : Nat → Int64} {Q : Option Value → (Nat → Nat → Int32) → (Nat → Int64) → Prop} {v1 : Int32}  (K : XS mX10_isNode 0 [(0, .ref 49), (1, .int v1)] [] I L (fun r I' L' => XS mX10_trace 5 [(0, .ref 49), (1, .int v1)] (r.toList ++ []) I' L' Q)) : XS mX10_trace 0 [(0, .ref 49), (1, .int v1)] [] I L Q := by
  refine x_aload_n 0 dX10_trace_0 rfl rfl ?_
  refine x_iload_n 1 dX10_trace_1 rfl rfl ?_
  exact xs_callV mX10_isNode [.int v1] [] 49 10 1 _ rfl dX10_trace_2 ml_X10_234 qX10_isNode rfl ⟨Nat.le_of_ble_eq_true rfl, Nat.le_of_ble_eq_true rfl⟩ ⟨rfl, rfl⟩ (Nat.le_of_ble_eq_true rfl) sh_49 (by decide) rfl (Nat.le_of_ble_eq_true rfl) (K)
theorem bX10_trace_5 {I : Nat → Nat → Int32} {L : Nat → Int64} {Q : Option Value → (Nat → Nat → Int32) → (Nat → Int64) → Prop} {v1 : Int32} {s0 : Int32}  (K1 : (¬ s0 = 0) → XS mX10_trace 11 [(0, .ref 49), (1, .int v1)] [] I L Q) (K2 : (s0 = 0) → XS mX10_trace 8 [] [] I L Q) : XS mX10_trace 5 [(0, .ref 49), (1, .int v1)] [.int s0] I L Q := by
  exact x_if_ne 11 dX10_trace_5 (by decide) (fun h => K1 h) (fun h => x_sub [] rfl (K2 h))
theorem bX10_trace_8 {I : Nat → Nat → Int32} {L : Nat → Int64} {Q : Option Value → (Nat → Nat → Int32) → (Nat → Int64) → Prop}   (K : Q (some (.int (-2 : Int32))) I L) : XS mX10_trace 8 [] [] I L Q := by
  refine x_bipush (v := (-2 : Int32)) dX10_trace_8 (by decide) ?_
  exact xs_iret dX10_trace_10 rfl rfl K
theorem bX10_trace_11 {I : Nat → Nat → Int32} {L : Nat → Int64} {Q : Option Value → (Nat → Nat → Int32) → (Nat → Int64) → Prop} {v1 : Int32}  (K : XS mX10_trace 13 [(0, .ref 49), (1, .int v1), (2, .int (0 : Int32))] [] I L Q) : XS mX10_trace 11 [(0, .ref 49), (1, .int v1)] [] I L Q := by
  refine x_iconst (v := (0 : Int32)) dX10_trace_11 (by decide) ?_
  refine x_istore_n [(0, .ref 49), (1, .int v1), (2, .int (0 : Int32))] dX10_trace_12 rfl (Nat.le_of_ble_eq_true rfl) rfl ?_
  exact K
theorem bX10_trace_13 {I : Nat → Nat → Int32} {L : Nat → Int64} {Q : Option Value → (Nat → Nat → Int32) → (Nat → Int64) → Prop} {v1 : Int32} {v2 : Int32}  (K1 : ((I 3147 0) ≤ v2) → XS mX10_trace 40 [(0, .ref 49), (1, .int v1)] [] I L Q) (K2 : (¬ (I 3147 0) ≤ v2) → XS mX10_trace 21 [(0, .ref 49), (1, .int v1), (2, .int v2)] [] I L Q) : XS mX10_trace 13 [(0, .ref 49), (1, .int v1), (2, .int v2)] [] I L Q := by
  refine x_iload_n 2 dX10_trace_13 rfl rfl ?_
  refine x_aload_n 0 dX10_trace_14 rfl rfl ?_
  refine xs_geti 3147 dX10_trace_15 fl_X10_177 sh_49 rfl rfl ?_
  exact x_icmp_ge 40 dX10_trace_18 (by decide) (fun h => x_sub [0, 1] rfl (K1 h)) (fun h => K2 h)
theorem bX10_trace_21 {I : Nat → Nat → Int32} {L : Nat → Int64} {Q : Option Value → (Nat → Nat → Int32) → (Nat → Int64) → Prop} {v1 : Int32} {v2 : Int32} (hb1 : vp_in v2 8) (K1 : (¬ (I 3648 (v2.toNatClampNeg)) = v1) → XS mX10_trace 34 [(0, .ref 49), (1, .int v1), (2, .int v2)] [] I L Q) (K2 : ((I 3648 (v2.toNatClampNeg)) = v1) → XS mX10_trace 31 [] [] I L Q) : XS mX10_trace 21 [(0, .ref 49), (1, .int v1), (2, .int v2)] [] I L Q := by
  refine x_aload_n 0 dX10_trace_21 rfl rfl ?_
  refine xs_getr dX10_trace_22 fl_X10_35 sh_49 rfl rf_3148 ?_
  refine x_iload_n 2 dX10_trace_25 rfl rfl ?_
  refine xs_iald 3648 (v2.toNatClampNeg) dX10_trace_26 sh_57 rfl rfl hb1 ?_
  refine x_iload_n 1 dX10_trace_27 rfl rfl ?_
  exact x_icmp_ne 34 dX10_trace_28 (by decide) (fun h => K1 h) (fun h => x_sub [] rfl (K2 h))
theorem bX10_trace_31 {I : Nat → Nat → Int32} {L : Nat → Int64} {Q : Option Value → (Nat → Nat → Int32) → (Nat → Int64) → Prop}   (K : Q (some (.int (-4 : Int32))) I L) : XS mX10_trace 31 [] [] I L Q := by
  refine x_bipush (v := (-4 : Int32)) dX10_trace_31 (by decide) ?_
  exact xs_iret dX10_trace_33 rfl rfl K
theorem bX10_trace_34 {I : Nat → Nat → Int32} {L : Nat → Int64} {Q : Option Value → (Nat → Nat → Int32) → (Nat → Int64) → Prop} {v1 : Int32} {v2 : Int32}  (K : XS mX10_trace 13 [(0, .ref 49), (1, .int v1), (2, .int (v2 + (1 : Int32)))] [] I L Q) : XS mX10_trace 34 [(0, .ref 49), (1, .int v1), (2, .int v2)] [] I L Q := by
  refine x_iinc 2 (v2 + (1 : Int32)) [(0, .ref 49), (1, .int v1), (2, .int (v2 + (1 : Int32)))] dX10_trace_34 rfl rfl (Nat.le_of_ble_eq_true rfl) rfl ?_
  exact x_goto 13 dX10_trace_37 (by decide) (K)
theorem bX10_trace_40 {I : Nat → Nat → Int32} {L : Nat → Int64} {Q : Option Value → (Nat → Nat → Int32) → (Nat → Int64) → Prop} {v1 : Int32}  (K1 : ((I 3147 0) ≤ 0) → XS mX10_trace 70 [(0, .ref 49), (1, .int v1)] [] I L Q) (K2 : (¬ (I 3147 0) ≤ 0) → XS mX10_trace 47 [(0, .ref 49), (1, .int v1)] [] I L Q) : XS mX10_trace 40 [(0, .ref 49), (1, .int v1)] [] I L Q := by
  refine x_aload_n 0 dX10_trace_40 rfl rfl ?_
  refine xs_geti 3147 dX10_trace_41 fl_X10_177 sh_49 rfl rfl ?_
  exact x_if_le 70 dX10_trace_44 (by decide) (fun h => K1 h) (fun h => K2 h)
theorem bX10_trace_47 {I : Nat → Nat → Int32} {L : Nat → Int64} {Q : Option Value → (Nat → Nat → Int32) → (Nat → Int64) → Prop} {v1 : Int32} (hb1 : vp_in ((I 3147 0) - (1 : Int32)) 8) (K : XS mX10_linkOf 0 [(0, .ref 49), (1, .int (I 3648 (((I 3147 0) - (1 : Int32)).toNatClampNeg))), (2, .int v1)] [] I L (fun r I' L' => XS mX10_trace 63 [(0, .ref 49), (1, .int v1)] (r.toList ++ []) I' L' Q)) : XS mX10_trace 47 [(0, .ref 49), (1, .int v1)] [] I L Q := by
  refine x_aload_n 0 dX10_trace_47 rfl rfl ?_
  refine x_aload_n 0 dX10_trace_48 rfl rfl ?_
  refine xs_getr dX10_trace_49 fl_X10_35 sh_49 rfl rf_3148 ?_
  refine x_aload_n 0 dX10_trace_52 rfl rfl ?_
  refine xs_geti 3147 dX10_trace_53 fl_X10_177 sh_49 rfl rfl ?_
  refine x_iconst (v := (1 : Int32)) dX10_trace_56 (by decide) ?_
  refine x_isub dX10_trace_57 ?_
  refine xs_iald 3648 (((I 3147 0) - (1 : Int32)).toNatClampNeg) dX10_trace_58 sh_57 rfl rfl hb1 ?_
  refine x_iload_n 1 dX10_trace_59 rfl rfl ?_
  exact xs_callV mX10_linkOf [.int (I 3648 (((I 3147 0) - (1 : Int32)).toNatClampNeg)), .int v1] [] 49 10 2 _ rfl dX10_trace_60 ml_X10_101 qX10_linkOf rfl ⟨Nat.le_of_ble_eq_true rfl, Nat.le_of_ble_eq_true rfl⟩ ⟨rfl, rfl⟩ (Nat.le_of_ble_eq_true rfl) sh_49 (by decide) rfl (Nat.le_of_ble_eq_true rfl) (K)
theorem bX10_trace_63 {I : Nat → Nat → Int32} {L : Nat → Int64} {Q : Option Value → (Nat → Nat → Int32) → (Nat → Int64) → Prop} {v1 : Int32} {s0 : Int32}  (K1 : (¬ s0 = (-1 : Int32)) → XS mX10_trace 70 [(0, .ref 49), (1, .int v1)] [] I L Q) (K2 : (s0 = (-1 : Int32)) → XS mX10_trace 67 [] [] I L Q) : XS mX10_trace 63 [(0, .ref 49), (1, .int v1)] [.int s0] I L Q := by
  refine x_iconst (v := (-1 : Int32)) dX10_trace_63 (by decide) ?_
  exact x_icmp_ne 70 dX10_trace_64 (by decide) (fun h => K1 h) (fun h => x_sub [] rfl (K2 h))
theorem bX10_trace_67 {I : Nat → Nat → Int32} {L : Nat → Int64} {Q : Option Value → (Nat → Nat → Int32) → (Nat → Int64) → Prop}   (K : Q (some (.int (-4 : Int32))) I L) : XS mX10_trace 67 [] [] I L Q := by
  refine x_bipush (v := (-4 : Int32)) dX10_trace_67 (by decide) ?_
  exact xs_iret dX10_trace_69 rfl rfl K
theorem bX10_trace_70 {I : Nat → Nat → Int32} {L : Nat → Int64} {Q : Option Value → (Nat → Nat → Int32) → (Nat → Int64) → Prop} {v1 : Int32}  (K1 : (¬ (I 3147 0) = (8 : Int32)) → XS mX10_trace 82 [(0, .ref 49), (1, .int v1)] [] I L Q) (K2 : ((I 3147 0) = (8 : Int32)) → XS mX10_trace 79 [] [] I L Q) : XS mX10_trace 70 [(0, .ref 49), (1, .int v1)] [] I L Q := by
  refine x_aload_n 0 dX10_trace_70 rfl rfl ?_
  refine xs_geti 3147 dX10_trace_71 fl_X10_177 sh_49 rfl rfl ?_
  refine x_bipush (v := (8 : Int32)) dX10_trace_74 (by decide) ?_
  exact x_icmp_ne 82 dX10_trace_76 (by decide) (fun h => K1 h) (fun h => x_sub [] rfl (K2 h))
theorem bX10_trace_79 {I : Nat → Nat → Int32} {L : Nat → Int64} {Q : Option Value → (Nat → Nat → Int32) → (Nat → Int64) → Prop}   (K : Q (some (.int (-5 : Int32))) I L) : XS mX10_trace 79 [] [] I L Q := by
  refine x_bipush (v := (-5 : Int32)) dX10_trace_79 (by decide) ?_
  exact xs_iret dX10_trace_81 rfl rfl K
theorem bX10_trace_82 {I : Nat → Nat → Int32} {L : Nat → Int64} {Q : Option Value → (Nat → Nat → Int32) → (Nat → Int64) → Prop} {v1 : Int32} (hb1 : vp_in (I 3147 0) 8) (K : Q (some (.int ((x_up (x_up I 3648 ((I 3147 0).toNatClampNeg) v1) 3147 0 (((x_up I 3648 ((I 3147 0).toNatClampNeg) v1) 3147 0) + (1 : Int32))) 3147 0))) (x_up (x_up I 3648 ((I 3147 0).toNatClampNeg) v1) 3147 0 (((x_up I 3648 ((I 3147 0).toNatClampNeg) v1) 3147 0) + (1 : Int32))) L) : XS mX10_trace 82 [(0, .ref 49), (1, .int v1)] [] I L Q := by
  refine x_aload_n 0 dX10_trace_82 rfl rfl ?_
  refine xs_getr dX10_trace_83 fl_X10_35 sh_49 rfl rf_3148 ?_
  refine x_aload_n 0 dX10_trace_86 rfl rfl ?_
  refine xs_geti 3147 dX10_trace_87 fl_X10_177 sh_49 rfl rfl ?_
  refine x_iload_n 1 dX10_trace_90 rfl rfl ?_
  refine xs_iast 3648 ((I 3147 0).toNatClampNeg) dX10_trace_91 sh_57 rfl rfl hb1 ?_
  refine x_aload_n 0 dX10_trace_92 rfl rfl ?_
  refine x_dup dX10_trace_93 rfl ?_
  refine xs_geti 3147 dX10_trace_94 fl_X10_177 sh_49 rfl rfl ?_
  refine x_iconst (v := (1 : Int32)) dX10_trace_97 (by decide) ?_
  refine x_iadd dX10_trace_98 ?_
  refine xs_puti 3147 dX10_trace_99 fl_X10_177 sh_49 rfl rfl rfl ?_
  refine x_aload_n 0 dX10_trace_102 rfl rfl ?_
  refine xs_geti 3147 dX10_trace_103 fl_X10_177 sh_49 rfl rfl ?_
  exact xs_iret dX10_trace_106 rfl rfl K
theorem bX10_untrace_0 {I : Nat → Nat → Int32} {L : Nat → Int64} {Q : Option Value → (Nat → Nat → Int32) → (Nat → Int64) → Prop}   (K : Q (some (.int (I 3147 0))) (x_up I 3147 0 (0 : Int32)) L) : XS mX10_untrace 0 [(0, .ref 49)] [] I L Q := by
  refine x_aload_n 0 dX10_untrace_0 rfl rfl ?_
  refine xs_geti 3147 dX10_untrace_1 fl_X10_177 sh_49 rfl rfl ?_
  refine x_istore_n [(0, .ref 49), (1, .int (I 3147 0))] dX10_untrace_4 rfl (Nat.le_of_ble_eq_true rfl) rfl ?_
  refine x_aload_n 0 dX10_untrace_5 rfl rfl ?_
  refine x_iconst (v := (0 : Int32)) dX10_untrace_6 (by decide) ?_
  refine xs_puti 3147 dX10_untrace_7 fl_X10_177 sh_49 rfl rfl rfl ?_
  refine x_iload_n 1 dX10_untrace_10 rfl rfl ?_
  exact xs_iret dX10_untrace_11 rfl rfl K
theorem bX10_briefs_0 {I : Nat → Nat → Int32} {L : Nat → Int64} {Q : Option Value → (Nat → Nat → Int32) → (Nat → Int64) → Prop}   (K1 : ((I 3147 0) ≤ 0) → XS mX10_briefs 42 [] [] I L Q) (K2 : (¬ (I 3147 0) ≤ 0) → XS mX10_briefs 7 [(0, .ref 49)] [] I L Q) : XS mX10_briefs 0 [(0, .ref 49)] [] I L Q := by
  refine x_aload_n 0 dX10_briefs_0 rfl rfl ?_
  refine xs_geti 3147 dX10_briefs_1 fl_X10_177 sh_49 rfl rfl ?_
  exact x_if_le 42 dX10_briefs_4 (by decide) (fun h => x_sub [] rfl (K1 h)) (fun h => K2 h)
theorem bX10_briefs_7 {I : Nat → Nat → Int32} {L : Nat → Int64} {Q : Option Value → (Nat → Nat → Int32) → (Nat → Int64) → Prop}  (hb1 : vp_in ((29 : Int32) + (I 3648 0)) 37) (K : XS mX10_shortens 0 [(0, .ref 49), (1, .ref 57), (2, .int (I 3147 0)), (3, .int (I 3392 (((29 : Int32) + (I 3648 0)).toNatClampNeg))), (4, .int (7 : Int32))] [] I L (fun r I' L' => XS mX10_briefs 35 [] (r.toList ++ []) I' L' Q)) : XS mX10_briefs 7 [(0, .ref 49)] [] I L Q := by
  refine x_aload_n 0 dX10_briefs_7 rfl rfl ?_
  refine x_aload_n 0 dX10_briefs_8 rfl rfl ?_
  refine xs_getr dX10_briefs_9 fl_X10_35 sh_49 rfl rf_3148 ?_
  refine x_aload_n 0 dX10_briefs_12 rfl rfl ?_
  refine xs_geti 3147 dX10_briefs_13 fl_X10_177 sh_49 rfl rfl ?_
  refine x_aload_n 0 dX10_briefs_16 rfl rfl ?_
  refine xs_getr dX10_briefs_17 fl_X10_23 sh_49 rfl rf_3141 ?_
  refine x_bipush (v := (29 : Int32)) dX10_briefs_20 (by decide) ?_
  refine x_aload_n 0 dX10_briefs_22 rfl rfl ?_
  refine xs_getr dX10_briefs_23 fl_X10_35 sh_49 rfl rf_3148 ?_
  refine x_iconst (v := (0 : Int32)) dX10_briefs_26 (by decide) ?_
  refine xs_iald 3648 (0) dX10_briefs_27 sh_57 rfl (by decide) (x_vpin (by decide)) ?_
  refine x_iadd dX10_briefs_28 ?_
  refine xs_iald 3392 (((29 : Int32) + (I 3648 0)).toNatClampNeg) dX10_briefs_29 sh_53 rfl rfl hb1 ?_
  refine x_bipush (v := (7 : Int32)) dX10_briefs_30 (by decide) ?_
  refine x_sub [] rfl ?_
  exact xs_callV mX10_shortens [.ref 57, .int (I 3147 0), .int (I 3392 (((29 : Int32) + (I 3648 0)).toNatClampNeg)), .int (7 : Int32)] [] 49 10 4 _ rfl dX10_briefs_32 ml_X10_130 qX10_shortens rfl ⟨Nat.le_of_ble_eq_true rfl, Nat.le_of_ble_eq_true rfl⟩ ⟨rfl, rfl⟩ (Nat.le_of_ble_eq_true rfl) sh_49 (by decide) rfl (Nat.le_of_ble_eq_true rfl) (K)
theorem bX10_briefs_35 {I : Nat → Nat → Int32} {L : Nat → Int64} {Q : Option Value → (Nat → Nat → Int32) → (Nat → Int64) → Prop} {s0 : Int32}  (K1 : (s0 = 0) → XS mX10_briefs 42 [] [] I L Q) (K2 : (¬ s0 = 0) → XS mX10_briefs 38 [] [] I L Q) : XS mX10_briefs 35 [] [.int s0] I L Q := by
  exact x_if_eq 42 dX10_briefs_35 (by decide) (fun h => K1 h) (fun h => K2 h)
theorem bX10_briefs_38 {I : Nat → Nat → Int32} {L : Nat → Int64} {Q : Option Value → (Nat → Nat → Int32) → (Nat → Int64) → Prop}   (K : XS mX10_briefs 43 [] [.int (1 : Int32)] I L Q) : XS mX10_briefs 38 [] [] I L Q := by
  refine x_iconst (v := (1 : Int32)) dX10_briefs_38 (by decide) ?_
  exact x_goto 43 dX10_briefs_39 (by decide) (K)
theorem bX10_briefs_42 {I : Nat → Nat → Int32} {L : Nat → Int64} {Q : Option Value → (Nat → Nat → Int32) → (Nat → Int64) → Prop}   (K : XS mX10_briefs 43 [] [.int (0 : Int32)] I L Q) : XS mX10_briefs 42 [] [] I L Q := by
  refine x_iconst (v := (0 : Int32)) dX10_briefs_42 (by decide) ?_
  exact K
theorem bX10_briefs_43 {I : Nat → Nat → Int32} {L : Nat → Int64} {Q : Option Value → (Nat → Nat → Int32) → (Nat → Int64) → Prop} {s0 : Int32} (hz1 : s0 = 0 ∨ s0 = 1) (K : Q (some (.int s0)) I L) : XS mX10_briefs 43 [] [.int s0] I L Q := by
  exact xs_iret dX10_briefs_43 rfl (x_nar _ hz1) K
theorem bX10_brief_0 {I : Nat → Nat → Int32} {L : Nat → Int64} {Q : Option Value → (Nat → Nat → Int32) → (Nat → Int64) → Prop} {v1 : Int32}  (K1 : ((-1 : Int32) ≤ v1) → XS mX10_brief 8 [(0, .ref 49), (1, .int v1)] [] I L Q) (K2 : (¬ (-1 : Int32) ≤ v1) → XS mX10_brief 5 [] [] I L Q) : XS mX10_brief 0 [(0, .ref 49), (1, .int v1)] [] I L Q := by
  refine x_iload_n 1 dX10_brief_0 rfl rfl ?_
  refine x_iconst (v := (-1 : Int32)) dX10_brief_1 (by decide) ?_
  exact x_icmp_ge 8 dX10_brief_2 (by decide) (fun h => K1 h) (fun h => x_sub [] rfl (K2 h))
theorem bX10_brief_5 {I : Nat → Nat → Int32} {L : Nat → Int64} {Q : Option Value → (Nat → Nat → Int32) → (Nat → Int64) → Prop}   (K : Q (some (.int (-3 : Int32))) I L) : XS mX10_brief 5 [] [] I L Q := by
  refine x_bipush (v := (-3 : Int32)) dX10_brief_5 (by decide) ?_
  exact xs_iret dX10_brief_7 rfl rfl K
theorem bX10_brief_8 {I : Nat → Nat → Int32} {L : Nat → Int64} {Q : Option Value → (Nat → Nat → Int32) → (Nat → Int64) → Prop} {v1 : Int32}  (K : XS mX10_briefs 0 [(0, .ref 49)] [] I L (fun r I' L' => XS mX10_brief 12 [(0, .ref 49), (1, .int v1)] (r.toList ++ []) I' L' Q)) : XS mX10_brief 8 [(0, .ref 49), (1, .int v1)] [] I L Q := by
  refine x_aload_n 0 dX10_brief_8 rfl rfl ?_
  exact xs_callV mX10_briefs [] [] 49 10 0 _ rfl dX10_brief_9 ml_X10_262 qX10_briefs rfl ⟨Nat.le_of_ble_eq_true rfl, Nat.le_of_ble_eq_true rfl⟩ ⟨rfl, rfl⟩ (Nat.le_of_ble_eq_true rfl) sh_49 (by decide) rfl (Nat.le_of_ble_eq_true rfl) (K)
theorem bX10_brief_12 {I : Nat → Nat → Int32} {L : Nat → Int64} {Q : Option Value → (Nat → Nat → Int32) → (Nat → Int64) → Prop} {v1 : Int32} {s0 : Int32}  (K1 : (s0 = 0) → XS mX10_brief 23 [] [] I L Q) (K2 : (¬ s0 = 0) → XS mX10_brief 15 [(0, .ref 49), (1, .int v1)] [] I L Q) : XS mX10_brief 12 [(0, .ref 49), (1, .int v1)] [.int s0] I L Q := by
  exact x_if_eq 23 dX10_brief_12 (by decide) (fun h => x_sub [] rfl (K1 h)) (fun h => K2 h)
theorem bX10_brief_15 {I : Nat → Nat → Int32} {L : Nat → Int64} {Q : Option Value → (Nat → Nat → Int32) → (Nat → Int64) → Prop} {v1 : Int32}  (K : XS mX10_shortAt 0 [(0, .ref 49), (1, .int v1)] [] I L (fun r I' L' => XS mX10_brief 20 [] (r.toList ++ []) I' L' Q)) : XS mX10_brief 15 [(0, .ref 49), (1, .int v1)] [] I L Q := by
  refine x_aload_n 0 dX10_brief_15 rfl rfl ?_
  refine x_iload_n 1 dX10_brief_16 rfl rfl ?_
  refine x_sub [] rfl ?_
  exact xs_callV mX10_shortAt [.int v1] [] 49 10 1 _ rfl dX10_brief_17 ml_X10_259 qX10_shortAt rfl ⟨Nat.le_of_ble_eq_true rfl, Nat.le_of_ble_eq_true rfl⟩ ⟨rfl, rfl⟩ (Nat.le_of_ble_eq_true rfl) sh_49 (by decide) rfl (Nat.le_of_ble_eq_true rfl) (K)
theorem bX10_brief_20 {I : Nat → Nat → Int32} {L : Nat → Int64} {Q : Option Value → (Nat → Nat → Int32) → (Nat → Int64) → Prop} {s0 : Int32}  (K : XS mX10_brief 25 [] [.int s0] I L Q) : XS mX10_brief 20 [] [.int s0] I L Q := by
  exact x_goto 25 dX10_brief_20 (by decide) (K)
theorem bX10_brief_23 {I : Nat → Nat → Int32} {L : Nat → Int64} {Q : Option Value → (Nat → Nat → Int32) → (Nat → Int64) → Prop}   (K : XS mX10_brief 25 [] [.int (-4 : Int32)] I L Q) : XS mX10_brief 23 [] [] I L Q := by
  refine x_bipush (v := (-4 : Int32)) dX10_brief_23 (by decide) ?_
  exact K
theorem bX10_brief_25 {I : Nat → Nat → Int32} {L : Nat → Int64} {Q : Option Value → (Nat → Nat → Int32) → (Nat → Int64) → Prop} {s0 : Int32}  (K : Q (some (.int s0)) I L) : XS mX10_brief 25 [] [.int s0] I L Q := by
  exact xs_iret dX10_brief_25 rfl rfl K
theorem bX10_adopt_0 {I : Nat → Nat → Int32} {L : Nat → Int64} {Q : Option Value → (Nat → Nat → Int32) → (Nat → Int64) → Prop}   (K : XS mX10_briefs 0 [(0, .ref 49)] [] I L (fun r I' L' => XS mX10_adopt 4 [(0, .ref 49)] (r.toList ++ []) I' L' Q)) : XS mX10_adopt 0 [(0, .ref 49)] [] I L Q := by
  refine x_aload_n 0 dX10_adopt_0 rfl rfl ?_
  exact xs_callV mX10_briefs [] [] 49 10 0 _ rfl dX10_adopt_1 ml_X10_262 qX10_briefs rfl ⟨Nat.le_of_ble_eq_true rfl, Nat.le_of_ble_eq_true rfl⟩ ⟨rfl, rfl⟩ (Nat.le_of_ble_eq_true rfl) sh_49 (by decide) rfl (Nat.le_of_ble_eq_true rfl) (K)
theorem bX10_adopt_4 {I : Nat → Nat → Int32} {L : Nat → Int64} {Q : Option Value → (Nat → Nat → Int32) → (Nat → Int64) → Prop} {s0 : Int32}  (K1 : (¬ s0 = 0) → XS mX10_adopt 10 [(0, .ref 49)] [] I L Q) (K2 : (s0 = 0) → XS mX10_adopt 7 [] [] I L Q) : XS mX10_adopt 4 [(0, .ref 49)] [.int s0] I L Q := by
  exact x_if_ne 10 dX10_adopt_4 (by decide) (fun h => K1 h) (fun h => x_sub [] rfl (K2 h))
theorem bX10_adopt_7 {I : Nat → Nat → Int32} {L : Nat → Int64} {Q : Option Value → (Nat → Nat → Int32) → (Nat → Int64) → Prop}   (K : Q (some (.int (-4 : Int32))) I L) : XS mX10_adopt 7 [] [] I L Q := by
  refine x_bipush (v := (-4 : Int32)) dX10_adopt_7 (by decide) ?_
  exact xs_iret dX10_adopt_9 rfl rfl K
theorem bX10_adopt_10 {I : Nat → Nat → Int32} {L : Nat → Int64} {Q : Option Value → (Nat → Nat → Int32) → (Nat → Int64) → Prop}   (K : XS mX10_adopt 20 [(0, .ref 49), (1, .int (0 : Int32))] [] (x_up I 3144 0 (I 3155 0)) L Q) : XS mX10_adopt 10 [(0, .ref 49)] [] I L Q := by
  refine x_aload_n 0 dX10_adopt_10 rfl rfl ?_
  refine x_aload_n 0 dX10_adopt_11 rfl rfl ?_
  refine xs_geti 3155 dX10_adopt_12 fl_X10_123 sh_49 rfl rfl ?_
  refine xs_puti 3144 dX10_adopt_15 fl_X10_174 sh_49 rfl rfl rfl ?_
  refine x_iconst (v := (0 : Int32)) dX10_adopt_18 (by decide) ?_
  refine x_istore_n [(0, .ref 49), (1, .int (0 : Int32))] dX10_adopt_19 rfl (Nat.le_of_ble_eq_true rfl) rfl ?_
  exact K
theorem bX10_adopt_20 {I : Nat → Nat → Int32} {L : Nat → Int64} {Q : Option Value → (Nat → Nat → Int32) → (Nat → Int64) → Prop} {v1 : Int32}  (K1 : ((I 3155 0) ≤ v1) → XS mX10_adopt 58 [(0, .ref 49)] [] I L Q) (K2 : (¬ (I 3155 0) ≤ v1) → XS mX10_adopt 28 [(0, .ref 49), (1, .int v1)] [] I L Q) : XS mX10_adopt 20 [(0, .ref 49), (1, .int v1)] [] I L Q := by
  refine x_iload_n 1 dX10_adopt_20 rfl rfl ?_
  refine x_aload_n 0 dX10_adopt_21 rfl rfl ?_
  refine xs_geti 3155 dX10_adopt_22 fl_X10_123 sh_49 rfl rfl ?_
  exact x_icmp_ge 58 dX10_adopt_25 (by decide) (fun h => x_sub [0] rfl (K1 h)) (fun h => K2 h)
theorem bX10_adopt_28 {I : Nat → Nat → Int32} {L : Nat → Int64} {Q : Option Value → (Nat → Nat → Int32) → (Nat → Int64) → Prop} {v1 : Int32} (hb1 : vp_in v1 8) (hb2 : vp_in v1 8) (hb3 : vp_in v1 8) (hb4 : vp_in v1 8) (K : XS mX10_adopt 20 [(0, .ref 49), (1, .int (v1 + (1 : Int32)))] [] (x_up (x_up I 3520 (v1.toNatClampNeg) (I 3968 (v1.toNatClampNeg))) 3584 (v1.toNatClampNeg) ((x_up I 3520 (v1.toNatClampNeg) (I 3968 (v1.toNatClampNeg))) 4032 (v1.toNatClampNeg))) L Q) : XS mX10_adopt 28 [(0, .ref 49), (1, .int v1)] [] I L Q := by
  refine x_aload_n 0 dX10_adopt_28 rfl rfl ?_
  refine xs_getr dX10_adopt_29 fl_X10_29 sh_49 rfl rf_3145 ?_
  refine x_iload_n 1 dX10_adopt_32 rfl rfl ?_
  refine x_aload_n 0 dX10_adopt_33 rfl rfl ?_
  refine xs_getr dX10_adopt_34 fl_X10_50 sh_49 rfl rf_3156 ?_
  refine x_iload_n 1 dX10_adopt_37 rfl rfl ?_
  refine xs_iald 3968 (v1.toNatClampNeg) dX10_adopt_38 sh_62 rfl rfl hb1 ?_
  refine xs_iast 3520 (v1.toNatClampNeg) dX10_adopt_39 sh_55 rfl rfl hb2 ?_
  refine x_aload_n 0 dX10_adopt_40 rfl rfl ?_
  refine xs_getr dX10_adopt_41 fl_X10_32 sh_49 rfl rf_3146 ?_
  refine x_iload_n 1 dX10_adopt_44 rfl rfl ?_
  refine x_aload_n 0 dX10_adopt_45 rfl rfl ?_
  refine xs_getr dX10_adopt_46 fl_X10_53 sh_49 rfl rf_3157 ?_
  refine x_iload_n 1 dX10_adopt_49 rfl rfl ?_
  refine xs_iald 4032 (v1.toNatClampNeg) dX10_adopt_50 sh_63 rfl rfl hb3 ?_
  refine xs_iast 3584 (v1.toNatClampNeg) dX10_adopt_51 sh_56 rfl rfl hb4 ?_
  refine x_iinc 1 (v1 + (1 : Int32)) [(0, .ref 49), (1, .int (v1 + (1 : Int32)))] dX10_adopt_52 rfl rfl (Nat.le_of_ble_eq_true rfl) rfl ?_
  exact x_goto 20 dX10_adopt_55 (by decide) (K)
theorem bX10_adopt_58 {I : Nat → Nat → Int32} {L : Nat → Int64} {Q : Option Value → (Nat → Nat → Int32) → (Nat → Int64) → Prop}   (K : Q (some (.int (I 3144 0))) I L) : XS mX10_adopt 58 [(0, .ref 49)] [] I L Q := by
  refine x_aload_n 0 dX10_adopt_58 rfl rfl ?_
  refine xs_geti 3144 dX10_adopt_59 fl_X10_174 sh_49 rfl rfl ?_
  exact xs_iret dX10_adopt_62 rfl rfl K
theorem bX10_protect_0 {I : Nat → Nat → Int32} {L : Nat → Int64} {Q : Option Value → (Nat → Nat → Int32) → (Nat → Int64) → Prop} {v1 : Int32}  (K : XS mX10_in 0 [(0, .int v1), (1, .int (0 : Int32)), (2, .int (1 : Int32))] [] I L (fun r I' L' => XS mX10_protect 6 [(0, .ref 49), (1, .int v1)] (r.toList ++ []) I' L' Q)) : XS mX10_protect 0 [(0, .ref 49), (1, .int v1)] [] I L Q := by
  refine x_iload_n 1 dX10_protect_0 rfl rfl ?_
  refine x_iconst (v := (0 : Int32)) dX10_protect_1 (by decide) ?_
  refine x_iconst (v := (1 : Int32)) dX10_protect_2 (by decide) ?_
  exact xs_callS mX10_in [.int v1, .int (0 : Int32), .int (1 : Int32)] [] 3 _ rfl dX10_protect_3 ml_X10_86 qX10_in rfl ⟨Nat.le_of_ble_eq_true rfl, Nat.le_of_ble_eq_true rfl⟩ ⟨rfl, rfl⟩ (Nat.le_of_ble_eq_true rfl) (Nat.le_of_ble_eq_true rfl) (K)
theorem bX10_protect_6 {I : Nat → Nat → Int32} {L : Nat → Int64} {Q : Option Value → (Nat → Nat → Int32) → (Nat → Int64) → Prop} {v1 : Int32} {s0 : Int32}  (K1 : (¬ s0 = 0) → XS mX10_protect 12 [(0, .ref 49), (1, .int v1)] [] I L Q) (K2 : (s0 = 0) → XS mX10_protect 9 [] [] I L Q) : XS mX10_protect 6 [(0, .ref 49), (1, .int v1)] [.int s0] I L Q := by
  exact x_if_ne 12 dX10_protect_6 (by decide) (fun h => K1 h) (fun h => x_sub [] rfl (K2 h))
theorem bX10_protect_9 {I : Nat → Nat → Int32} {L : Nat → Int64} {Q : Option Value → (Nat → Nat → Int32) → (Nat → Int64) → Prop}   (K : Q (some (.int (-3 : Int32))) I L) : XS mX10_protect 9 [] [] I L Q := by
  refine x_bipush (v := (-3 : Int32)) dX10_protect_9 (by decide) ?_
  exact xs_iret dX10_protect_11 rfl rfl K
theorem bX10_protect_12 {I : Nat → Nat → Int32} {L : Nat → Int64} {Q : Option Value → (Nat → Nat → Int32) → (Nat → Int64) → Prop} {v1 : Int32}  (K : Q (some (.int (I 3149 0))) (x_up I 3149 0 v1) L) : XS mX10_protect 12 [(0, .ref 49), (1, .int v1)] [] I L Q := by
  refine x_aload_n 0 dX10_protect_12 rfl rfl ?_
  refine xs_geti 3149 dX10_protect_13 fl_X10_180 sh_49 rfl rfl ?_
  refine x_istore_n [(0, .ref 49), (1, .int v1), (2, .int (I 3149 0))] dX10_protect_16 rfl (Nat.le_of_ble_eq_true rfl) rfl ?_
  refine x_aload_n 0 dX10_protect_17 rfl rfl ?_
  refine x_iload_n 1 dX10_protect_18 rfl rfl ?_
  refine xs_puti 3149 dX10_protect_19 fl_X10_180 sh_49 rfl rfl rfl ?_
  refine x_iload_n 2 dX10_protect_22 rfl rfl ?_
  exact xs_iret dX10_protect_23 rfl rfl K
theorem bX10_bears_0 {I : Nat → Nat → Int32} {L : Nat → Int64} {Q : Option Value → (Nat → Nat → Int32) → (Nat → Int64) → Prop} {v1 : Int32} {v2 : Int32} (hb1 : vp_in (I 3178 0) 24) (hb2 : vp_in ((x_up I 4544 ((I 3178 0).toNatClampNeg) v1) 3178 0) 24) (K : Q none (x_up (x_up (x_up I 4544 ((I 3178 0).toNatClampNeg) v1) 4608 (((x_up I 4544 ((I 3178 0).toNatClampNeg) v1) 3178 0).toNatClampNeg) v2) 3178 0 (((x_up (x_up I 4544 ((I 3178 0).toNatClampNeg) v1) 4608 (((x_up I 4544 ((I 3178 0).toNatClampNeg) v1) 3178 0).toNatClampNeg) v2) 3178 0) + (1 : Int32))) L) : XS mX10_bears 0 [(0, .ref 49), (1, .int v1), (2, .int v2)] [] I L Q := by
  refine x_aload_n 0 dX10_bears_0 rfl rfl ?_
  refine xs_getr dX10_bears_1 fl_X10_80 sh_49 rfl rf_3179 ?_
  refine x_aload_n 0 dX10_bears_4 rfl rfl ?_
  refine xs_geti 3178 dX10_bears_5 fl_X10_266 sh_49 rfl rfl ?_
  refine x_iload_n 1 dX10_bears_8 rfl rfl ?_
  refine xs_iast 4544 ((I 3178 0).toNatClampNeg) dX10_bears_9 sh_71 rfl rfl hb1 ?_
  refine x_aload_n 0 dX10_bears_10 rfl rfl ?_
  refine xs_getr dX10_bears_11 fl_X10_83 sh_49 rfl rf_3180 ?_
  refine x_aload_n 0 dX10_bears_14 rfl rfl ?_
  refine xs_geti 3178 dX10_bears_15 fl_X10_266 sh_49 rfl rfl ?_
  refine x_iload_n 2 dX10_bears_18 rfl rfl ?_
  refine xs_iast 4608 (((x_up I 4544 ((I 3178 0).toNatClampNeg) v1) 3178 0).toNatClampNeg) dX10_bears_19 sh_72 rfl rfl hb2 ?_
  refine x_aload_n 0 dX10_bears_20 rfl rfl ?_
  refine x_dup dX10_bears_21 rfl ?_
  refine xs_geti 3178 dX10_bears_22 fl_X10_266 sh_49 rfl rfl ?_
  refine x_iconst (v := (1 : Int32)) dX10_bears_25 (by decide) ?_
  refine x_iadd dX10_bears_26 ?_
  refine xs_puti 3178 dX10_bears_27 fl_X10_266 sh_49 rfl rfl rfl ?_
  exact xs_end dX10_bears_30 rfl K
theorem bX10_mends_0 {I : Nat → Nat → Int32} {L : Nat → Int64} {Q : Option Value → (Nat → Nat → Int32) → (Nat → Int64) → Prop} {v1 : Int32} {v2 : Int32} (hb1 : vp_in ((I 3178 0) - (1 : Int32)) 24) (K1 : (¬ (I 4544 (((I 3178 0) - (1 : Int32)).toNatClampNeg)) = (2 : Int32)) → XS mX10_mends 26 [(0, .ref 49), (1, .int v1), (2, .int v2), (3, .int (I 4544 (((I 3178 0) - (1 : Int32)).toNatClampNeg)))] [] I L Q) (K2 : ((I 4544 (((I 3178 0) - (1 : Int32)).toNatClampNeg)) = (2 : Int32)) → XS mX10_mends 17 [(0, .ref 49), (1, .int v1), (2, .int v2), (3, .int (I 4544 (((I 3178 0) - (1 : Int32)).toNatClampNeg)))] [] I L Q) : XS mX10_mends 0 [(0, .ref 49), (1, .int v1), (2, .int v2)] [] I L Q := by
  refine x_aload_n 0 dX10_mends_0 rfl rfl ?_
  refine xs_getr dX10_mends_1 fl_X10_80 sh_49 rfl rf_3179 ?_
  refine x_aload_n 0 dX10_mends_4 rfl rfl ?_
  refine xs_geti 3178 dX10_mends_5 fl_X10_266 sh_49 rfl rfl ?_
  refine x_iconst (v := (1 : Int32)) dX10_mends_8 (by decide) ?_
  refine x_isub dX10_mends_9 ?_
  refine xs_iald 4544 (((I 3178 0) - (1 : Int32)).toNatClampNeg) dX10_mends_10 sh_71 rfl rfl hb1 ?_
  refine x_istore_n [(0, .ref 49), (1, .int v1), (2, .int v2), (3, .int (I 4544 (((I 3178 0) - (1 : Int32)).toNatClampNeg)))] dX10_mends_11 rfl (Nat.le_of_ble_eq_true rfl) rfl ?_
  refine x_iload_n 3 dX10_mends_12 rfl rfl ?_
  refine x_iconst (v := (2 : Int32)) dX10_mends_13 (by decide) ?_
  exact x_icmp_ne 26 dX10_mends_14 (by decide) (fun h => K1 h) (fun h => K2 h)
theorem bX10_mends_17 {I : Nat → Nat → Int32} {L : Nat → Int64} {Q : Option Value → (Nat → Nat → Int32) → (Nat → Int64) → Prop} {v1 : Int32} {v2 : Int32} {v3 : Int32}  (K : XS mX10_otherEnd 0 [(0, .ref 49), (1, .int v2), (2, .int v1)] [] I L (fun r I' L' => XS mX10_mends 23 [(0, .ref 49), (1, .int v1), (2, .int v2), (3, .int v3)] (r.toList ++ []) I' L' Q)) : XS mX10_mends 17 [(0, .ref 49), (1, .int v1), (2, .int v2), (3, .int v3)] [] I L Q := by
  refine x_aload_n 0 dX10_mends_17 rfl rfl ?_
  refine x_iload_n 2 dX10_mends_18 rfl rfl ?_
  refine x_iload_n 1 dX10_mends_19 rfl rfl ?_
  exact xs_callV mX10_otherEnd [.int v2, .int v1] [] 49 10 2 _ rfl dX10_mends_20 ml_X10_269 qX10_otherEnd rfl ⟨Nat.le_of_ble_eq_true rfl, Nat.le_of_ble_eq_true rfl⟩ ⟨rfl, rfl⟩ (Nat.le_of_ble_eq_true rfl) sh_49 (by decide) rfl (Nat.le_of_ble_eq_true rfl) (K)
theorem bX10_mends_23 {I : Nat → Nat → Int32} {L : Nat → Int64} {Q : Option Value → (Nat → Nat → Int32) → (Nat → Int64) → Prop} {v1 : Int32} {v2 : Int32} {v3 : Int32} {s0 : Int32}  (K : XS mX10_mends 37 [(0, .ref 49), (1, .int v1), (2, .int v2), (3, .int v3)] [.int s0] I L Q) : XS mX10_mends 23 [(0, .ref 49), (1, .int v1), (2, .int v2), (3, .int v3)] [.int s0] I L Q := by
  exact x_goto 37 dX10_mends_23 (by decide) (K)
theorem bX10_mends_26 {I : Nat → Nat → Int32} {L : Nat → Int64} {Q : Option Value → (Nat → Nat → Int32) → (Nat → Int64) → Prop} {v1 : Int32} {v2 : Int32} {v3 : Int32} (hb1 : vp_in ((I 3178 0) - (1 : Int32)) 24) (K : XS mX10_mends 37 [(0, .ref 49), (1, .int v1), (2, .int v2), (3, .int v3)] [.int (I 4608 (((I 3178 0) - (1 : Int32)).toNatClampNeg))] I L Q) : XS mX10_mends 26 [(0, .ref 49), (1, .int v1), (2, .int v2), (3, .int v3)] [] I L Q := by
  refine x_aload_n 0 dX10_mends_26 rfl rfl ?_
  refine xs_getr dX10_mends_27 fl_X10_83 sh_49 rfl rf_3180 ?_
  refine x_aload_n 0 dX10_mends_30 rfl rfl ?_
  refine xs_geti 3178 dX10_mends_31 fl_X10_266 sh_49 rfl rfl ?_
  refine x_iconst (v := (1 : Int32)) dX10_mends_34 (by decide) ?_
  refine x_isub dX10_mends_35 ?_
  refine xs_iald 4608 (((I 3178 0) - (1 : Int32)).toNatClampNeg) dX10_mends_36 sh_72 rfl rfl hb1 ?_
  exact K
theorem bX10_mends_37 {I : Nat → Nat → Int32} {L : Nat → Int64} {Q : Option Value → (Nat → Nat → Int32) → (Nat → Int64) → Prop} {v1 : Int32} {v2 : Int32} {v3 : Int32} {s0 : Int32}  (K1 : ((I 3149 0) = 0) → XS mX10_mends 65 [] [] I L Q) (K2 : (¬ (I 3149 0) = 0) → XS mX10_mends 46 [(0, .ref 49), (1, .int v1), (2, .int v2), (3, .int v3), (4, .int s0)] [] I L Q) : XS mX10_mends 37 [(0, .ref 49), (1, .int v1), (2, .int v2), (3, .int v3)] [.int s0] I L Q := by
  refine x_istore [(0, .ref 49), (1, .int v1), (2, .int v2), (3, .int v3), (4, .int s0)] dX10_mends_37 (Nat.le_of_ble_eq_true rfl) rfl ?_
  refine x_aload_n 0 dX10_mends_39 rfl rfl ?_
  refine xs_geti 3149 dX10_mends_40 fl_X10_180 sh_49 rfl rfl ?_
  exact x_if_eq 65 dX10_mends_43 (by decide) (fun h => x_sub [] rfl (K1 h)) (fun h => K2 h)
theorem bX10_mends_46 {I : Nat → Nat → Int32} {L : Nat → Int64} {Q : Option Value → (Nat → Nat → Int32) → (Nat → Int64) → Prop} {v1 : Int32} {v2 : Int32} {v3 : Int32} {v4 : Int32}  (K1 : ((I 3175 0) = (1 : Int32)) → XS mX10_mends 65 [] [] I L Q) (K2 : (¬ (I 3175 0) = (1 : Int32)) → XS mX10_mends 54 [(0, .ref 49), (1, .int v1), (2, .int v2), (3, .int v3), (4, .int v4)] [] I L Q) : XS mX10_mends 46 [(0, .ref 49), (1, .int v1), (2, .int v2), (3, .int v3), (4, .int v4)] [] I L Q := by
  refine x_aload_n 0 dX10_mends_46 rfl rfl ?_
  refine xs_geti 3175 dX10_mends_47 fl_X10_218 sh_49 rfl rfl ?_
  refine x_iconst (v := (1 : Int32)) dX10_mends_50 (by decide) ?_
  exact x_icmp_eq 65 dX10_mends_51 (by decide) (fun h => x_sub [] rfl (K1 h)) (fun h => K2 h)
theorem bX10_mends_54 {I : Nat → Nat → Int32} {L : Nat → Int64} {Q : Option Value → (Nat → Nat → Int32) → (Nat → Int64) → Prop} {v1 : Int32} {v2 : Int32} {v3 : Int32} {v4 : Int32}  (K : XS mX10_repairs 0 [(0, .ref 49), (1, .int v1), (2, .int v2), (3, .int v4)] [] I L (fun r I' L' => XS mX10_mends 62 [(0, .ref 49), (3, .int v3)] (r.toList ++ []) I' L' Q)) : XS mX10_mends 54 [(0, .ref 49), (1, .int v1), (2, .int v2), (3, .int v3), (4, .int v4)] [] I L Q := by
  refine x_aload_n 0 dX10_mends_54 rfl rfl ?_
  refine x_iload_n 1 dX10_mends_55 rfl rfl ?_
  refine x_iload_n 2 dX10_mends_56 rfl rfl ?_
  refine x_iload 4 dX10_mends_57 rfl ?_
  refine x_sub [0, 3] rfl ?_
  exact xs_callV mX10_repairs [.int v1, .int v2, .int v4] [] 49 10 3 _ rfl dX10_mends_59 ml_X10_256 qX10_repairs rfl ⟨Nat.le_of_ble_eq_true rfl, Nat.le_of_ble_eq_true rfl⟩ ⟨rfl, rfl⟩ (Nat.le_of_ble_eq_true rfl) sh_49 (by decide) rfl (Nat.le_of_ble_eq_true rfl) (K)
theorem bX10_mends_62 {I : Nat → Nat → Int32} {L : Nat → Int64} {Q : Option Value → (Nat → Nat → Int32) → (Nat → Int64) → Prop} {v3 : Int32} {s0 : Int32}  (K1 : (¬ s0 = 0) → XS mX10_mends 67 [(0, .ref 49), (3, .int v3)] [] I L Q) (K2 : (s0 = 0) → XS mX10_mends 65 [] [] I L Q) : XS mX10_mends 62 [(0, .ref 49), (3, .int v3)] [.int s0] I L Q := by
  exact x_if_ne 67 dX10_mends_62 (by decide) (fun h => K1 h) (fun h => x_sub [] rfl (K2 h))
theorem bX10_mends_65 {I : Nat → Nat → Int32} {L : Nat → Int64} {Q : Option Value → (Nat → Nat → Int32) → (Nat → Int64) → Prop}   (K : Q (some (.int (0 : Int32))) I L) : XS mX10_mends 65 [] [] I L Q := by
  refine x_iconst (v := (0 : Int32)) dX10_mends_65 (by decide) ?_
  exact xs_iret dX10_mends_66 rfl (x_nar _ (Or.inl rfl)) K
theorem bX10_mends_67 {I : Nat → Nat → Int32} {L : Nat → Int64} {Q : Option Value → (Nat → Nat → Int32) → (Nat → Int64) → Prop} {v3 : Int32}  (K1 : (¬ v3 = (2 : Int32)) → XS mX10_mends 81 [(0, .ref 49)] [.int (I 3178 0), .ref 49] I L Q) (K2 : (v3 = (2 : Int32)) → XS mX10_mends 77 [(0, .ref 49)] [.int (I 3178 0), .ref 49] I L Q) : XS mX10_mends 67 [(0, .ref 49), (3, .int v3)] [] I L Q := by
  refine x_aload_n 0 dX10_mends_67 rfl rfl ?_
  refine x_dup dX10_mends_68 rfl ?_
  refine xs_geti 3178 dX10_mends_69 fl_X10_266 sh_49 rfl rfl ?_
  refine x_iload_n 1 dX10_mends_72 rfl rfl ?_
  refine x_iconst (v := (2 : Int32)) dX10_mends_73 (by decide) ?_
  exact x_icmp_ne 81 dX10_mends_74 (by decide) (fun h => x_sub [0] rfl (K1 h)) (fun h => x_sub [0] rfl (K2 h))
theorem bX10_mends_77 {I : Nat → Nat → Int32} {L : Nat → Int64} {Q : Option Value → (Nat → Nat → Int32) → (Nat → Int64) → Prop} {s1 : Int32}  (K : XS mX10_mends 82 [(0, .ref 49)] [.int (1 : Int32), .int s1, .ref 49] I L Q) : XS mX10_mends 77 [(0, .ref 49)] [.int s1, .ref 49] I L Q := by
  refine x_iconst (v := (1 : Int32)) dX10_mends_77 (by decide) ?_
  exact x_goto 82 dX10_mends_78 (by decide) (K)
theorem bX10_mends_81 {I : Nat → Nat → Int32} {L : Nat → Int64} {Q : Option Value → (Nat → Nat → Int32) → (Nat → Int64) → Prop} {s1 : Int32}  (K : XS mX10_mends 82 [(0, .ref 49)] [.int (0 : Int32), .int s1, .ref 49] I L Q) : XS mX10_mends 81 [(0, .ref 49)] [.int s1, .ref 49] I L Q := by
  refine x_iconst (v := (0 : Int32)) dX10_mends_81 (by decide) ?_
  exact K
theorem bX10_mends_82 {I : Nat → Nat → Int32} {L : Nat → Int64} {Q : Option Value → (Nat → Nat → Int32) → (Nat → Int64) → Prop} {s1 : Int32} {s2 : Int32}  (K : XS mX10_mends 94 [(0, .ref 49), (5, .int (((x_up I 3178 0 (s1 - s2)) 3155 0) - (1 : Int32)))] [] (x_up I 3178 0 (s1 - s2)) L Q) : XS mX10_mends 82 [(0, .ref 49)] [.int s2, .int s1, .ref 49] I L Q := by
  refine x_isub dX10_mends_82 ?_
  refine xs_puti 3178 dX10_mends_83 fl_X10_266 sh_49 rfl rfl rfl ?_
  refine x_aload_n 0 dX10_mends_86 rfl rfl ?_
  refine xs_geti 3155 dX10_mends_87 fl_X10_123 sh_49 rfl rfl ?_
  refine x_iconst (v := (1 : Int32)) dX10_mends_90 (by decide) ?_
  refine x_isub dX10_mends_91 ?_
  refine x_istore [(0, .ref 49), (5, .int (((x_up I 3178 0 (s1 - s2)) 3155 0) - (1 : Int32)))] dX10_mends_92 (Nat.le_of_ble_eq_true rfl) rfl ?_
  exact K
theorem bX10_mends_94 {I : Nat → Nat → Int32} {L : Nat → Int64} {Q : Option Value → (Nat → Nat → Int32) → (Nat → Int64) → Prop} {v5 : Int32}  (K1 : (v5 < 0) → XS mX10_mends 123 [(0, .ref 49)] [] I L Q) (K2 : (¬ v5 < 0) → XS mX10_mends 99 [(0, .ref 49), (5, .int v5)] [] I L Q) : XS mX10_mends 94 [(0, .ref 49), (5, .int v5)] [] I L Q := by
  refine x_iload 1 dX10_mends_94 rfl ?_
  exact x_if_lt 123 dX10_mends_96 (by decide) (fun h => x_sub [0] rfl (K1 h)) (fun h => K2 h)
theorem bX10_mends_99 {I : Nat → Nat → Int32} {L : Nat → Int64} {Q : Option Value → (Nat → Nat → Int32) → (Nat → Int64) → Prop} {v5 : Int32} (hb1 : vp_in v5 8) (hb2 : vp_in v5 8) (K : XS mX10_bears 0 [(0, .ref 49), (1, .int (I 3968 (v5.toNatClampNeg))), (2, .int (I 4032 (v5.toNatClampNeg)))] [] I L (fun r I' L' => XS mX10_mends 117 [(0, .ref 49), (5, .int v5)] (r.toList ++ []) I' L' Q)) : XS mX10_mends 99 [(0, .ref 49), (5, .int v5)] [] I L Q := by
  refine x_aload_n 0 dX10_mends_99 rfl rfl ?_
  refine x_aload_n 0 dX10_mends_100 rfl rfl ?_
  refine xs_getr dX10_mends_101 fl_X10_50 sh_49 rfl rf_3156 ?_
  refine x_iload 1 dX10_mends_104 rfl ?_
  refine xs_iald 3968 (v5.toNatClampNeg) dX10_mends_106 sh_62 rfl rfl hb1 ?_
  refine x_aload_n 0 dX10_mends_107 rfl rfl ?_
  refine xs_getr dX10_mends_108 fl_X10_53 sh_49 rfl rf_3157 ?_
  refine x_iload 1 dX10_mends_111 rfl ?_
  refine xs_iald 4032 (v5.toNatClampNeg) dX10_mends_113 sh_63 rfl rfl hb2 ?_
  exact xs_callV mX10_bears [.int (I 3968 (v5.toNatClampNeg)), .int (I 4032 (v5.toNatClampNeg))] [] 49 10 2 _ rfl dX10_mends_114 ml_X10_272 qX10_bears rfl ⟨Nat.le_of_ble_eq_true rfl, Nat.le_of_ble_eq_true rfl⟩ ⟨rfl, rfl⟩ (Nat.le_of_ble_eq_true rfl) sh_49 (by decide) rfl (Nat.le_of_ble_eq_true rfl) (K)
theorem bX10_mends_117 {I : Nat → Nat → Int32} {L : Nat → Int64} {Q : Option Value → (Nat → Nat → Int32) → (Nat → Int64) → Prop} {v5 : Int32}  (K : XS mX10_mends 94 [(0, .ref 49), (5, .int (v5 + (-1 : Int32)))] [] I L Q) : XS mX10_mends 117 [(0, .ref 49), (5, .int v5)] [] I L Q := by
  refine x_iinc 1 (v5 + (-1 : Int32)) [(0, .ref 49), (5, .int (v5 + (-1 : Int32)))] dX10_mends_117 rfl rfl (Nat.le_of_ble_eq_true rfl) rfl ?_
  exact x_goto 94 dX10_mends_120 (by decide) (K)
theorem bX10_mends_123 {I : Nat → Nat → Int32} {L : Nat → Int64} {Q : Option Value → (Nat → Nat → Int32) → (Nat → Int64) → Prop}   (K : Q (some (.int (1 : Int32))) (x_up (x_up I 3175 0 (1 : Int32)) 3173 0 (((x_up I 3175 0 (1 : Int32)) 3173 0) + (1 : Int32))) L) : XS mX10_mends 123 [(0, .ref 49)] [] I L Q := by
  refine x_aload_n 0 dX10_mends_123 rfl rfl ?_
  refine x_iconst (v := (1 : Int32)) dX10_mends_124 (by decide) ?_
  refine xs_puti 3175 dX10_mends_125 fl_X10_218 sh_49 rfl rfl rfl ?_
  refine x_aload_n 0 dX10_mends_128 rfl rfl ?_
  refine x_dup dX10_mends_129 rfl ?_
  refine xs_geti 3173 dX10_mends_130 fl_X10_212 sh_49 rfl rfl ?_
  refine x_iconst (v := (1 : Int32)) dX10_mends_133 (by decide) ?_
  refine x_iadd dX10_mends_134 ?_
  refine xs_puti 3173 dX10_mends_135 fl_X10_212 sh_49 rfl rfl rfl ?_
  refine x_iconst (v := (1 : Int32)) dX10_mends_138 (by decide) ?_
  exact xs_iret dX10_mends_139 rfl (x_nar _ (Or.inr rfl)) K
theorem bX10_leavesOwn_0 {I : Nat → Nat → Int32} {L : Nat → Int64} {Q : Option Value → (Nat → Nat → Int32) → (Nat → Int64) → Prop} {v1 : Int32}  (K1 : ((I 3178 0) ≤ 0) → XS mX10_leavesOwn 50 [] [] I L Q) (K2 : (¬ (I 3178 0) ≤ 0) → XS mX10_leavesOwn 7 [(0, .ref 49), (1, .int v1)] [] I L Q) : XS mX10_leavesOwn 0 [(0, .ref 49), (1, .int v1)] [] I L Q := by
  refine x_aload_n 0 dX10_leavesOwn_0 rfl rfl ?_
  refine xs_geti 3178 dX10_leavesOwn_1 fl_X10_266 sh_49 rfl rfl ?_
  exact x_if_le 50 dX10_leavesOwn_4 (by decide) (fun h => x_sub [] rfl (K1 h)) (fun h => K2 h)
theorem bX10_leavesOwn_7 {I : Nat → Nat → Int32} {L : Nat → Int64} {Q : Option Value → (Nat → Nat → Int32) → (Nat → Int64) → Prop} {v1 : Int32} (hb1 : vp_in ((I 3178 0) - (1 : Int32)) 24) (K1 : ((2 : Int32) ≤ (I 4544 (((I 3178 0) - (1 : Int32)).toNatClampNeg))) → XS mX10_leavesOwn 50 [] [] I L Q) (K2 : (¬ (2 : Int32) ≤ (I 4544 (((I 3178 0) - (1 : Int32)).toNatClampNeg))) → XS mX10_leavesOwn 22 [(0, .ref 49), (1, .int v1)] [] I L Q) : XS mX10_leavesOwn 7 [(0, .ref 49), (1, .int v1)] [] I L Q := by
  refine x_aload_n 0 dX10_leavesOwn_7 rfl rfl ?_
  refine xs_getr dX10_leavesOwn_8 fl_X10_80 sh_49 rfl rf_3179 ?_
  refine x_aload_n 0 dX10_leavesOwn_11 rfl rfl ?_
  refine xs_geti 3178 dX10_leavesOwn_12 fl_X10_266 sh_49 rfl rfl ?_
  refine x_iconst (v := (1 : Int32)) dX10_leavesOwn_15 (by decide) ?_
  refine x_isub dX10_leavesOwn_16 ?_
  refine xs_iald 4544 (((I 3178 0) - (1 : Int32)).toNatClampNeg) dX10_leavesOwn_17 sh_71 rfl rfl hb1 ?_
  refine x_iconst (v := (2 : Int32)) dX10_leavesOwn_18 (by decide) ?_
  exact x_icmp_ge 50 dX10_leavesOwn_19 (by decide) (fun h => x_sub [] rfl (K1 h)) (fun h => K2 h)
theorem bX10_leavesOwn_22 {I : Nat → Nat → Int32} {L : Nat → Int64} {Q : Option Value → (Nat → Nat → Int32) → (Nat → Int64) → Prop} {v1 : Int32} (hb1 : vp_in ((I 3178 0) - (1 : Int32)) 24) (K1 : (¬ (I 4608 (((I 3178 0) - (1 : Int32)).toNatClampNeg)) = v1) → XS mX10_leavesOwn 50 [] [] I L Q) (K2 : ((I 4608 (((I 3178 0) - (1 : Int32)).toNatClampNeg)) = v1) → XS mX10_leavesOwn 37 [(0, .ref 49), (1, .int v1)] [] I L Q) : XS mX10_leavesOwn 22 [(0, .ref 49), (1, .int v1)] [] I L Q := by
  refine x_aload_n 0 dX10_leavesOwn_22 rfl rfl ?_
  refine xs_getr dX10_leavesOwn_23 fl_X10_83 sh_49 rfl rf_3180 ?_
  refine x_aload_n 0 dX10_leavesOwn_26 rfl rfl ?_
  refine xs_geti 3178 dX10_leavesOwn_27 fl_X10_266 sh_49 rfl rfl ?_
  refine x_iconst (v := (1 : Int32)) dX10_leavesOwn_30 (by decide) ?_
  refine x_isub dX10_leavesOwn_31 ?_
  refine xs_iald 4608 (((I 3178 0) - (1 : Int32)).toNatClampNeg) dX10_leavesOwn_32 sh_72 rfl rfl hb1 ?_
  refine x_iload_n 1 dX10_leavesOwn_33 rfl rfl ?_
  exact x_icmp_ne 50 dX10_leavesOwn_34 (by decide) (fun h => x_sub [] rfl (K1 h)) (fun h => K2 h)
theorem bX10_leavesOwn_37 {I : Nat → Nat → Int32} {L : Nat → Int64} {Q : Option Value → (Nat → Nat → Int32) → (Nat → Int64) → Prop} {v1 : Int32}  (K : XS mX10_leavesOwn 0 [(0, .ref 49), (1, .int v1)] [] (x_up I 3178 0 ((I 3178 0) - (1 : Int32))) L Q) : XS mX10_leavesOwn 37 [(0, .ref 49), (1, .int v1)] [] I L Q := by
  refine x_aload_n 0 dX10_leavesOwn_37 rfl rfl ?_
  refine x_dup dX10_leavesOwn_38 rfl ?_
  refine xs_geti 3178 dX10_leavesOwn_39 fl_X10_266 sh_49 rfl rfl ?_
  refine x_iconst (v := (1 : Int32)) dX10_leavesOwn_42 (by decide) ?_
  refine x_isub dX10_leavesOwn_43 ?_
  refine xs_puti 3178 dX10_leavesOwn_44 fl_X10_266 sh_49 rfl rfl rfl ?_
  exact x_goto 0 dX10_leavesOwn_47 (by decide) (K)
theorem bX10_leavesOwn_50 {I : Nat → Nat → Int32} {L : Nat → Int64} {Q : Option Value → (Nat → Nat → Int32) → (Nat → Int64) → Prop}   (K : Q none I L) : XS mX10_leavesOwn 50 [] [] I L Q := by
  exact xs_end dX10_leavesOwn_50 rfl K
theorem bX10_linkFrom_0 {I : Nat → Nat → Int32} {L : Nat → Int64} {Q : Option Value → (Nat → Nat → Int32) → (Nat → Int64) → Prop} {v1 : Int32} (hb1 : vp_in ((I 3178 0) - (1 : Int32)) 24) (hb2 : vp_in ((I 3178 0) - (1 : Int32)) 24) (K1 : (¬ (I 4544 (((I 3178 0) - (1 : Int32)).toNatClampNeg)) = (2 : Int32)) → XS mX10_linkFrom 56 [(0, .ref 49), (1, .int v1), (2, .int (I 4544 (((I 3178 0) - (1 : Int32)).toNatClampNeg))), (3, .int (I 4608 (((I 3178 0) - (1 : Int32)).toNatClampNeg)))] [] I L Q) (K2 : ((I 4544 (((I 3178 0) - (1 : Int32)).toNatClampNeg)) = (2 : Int32)) → XS mX10_linkFrom 29 [(0, .ref 49), (1, .int v1), (3, .int (I 4608 (((I 3178 0) - (1 : Int32)).toNatClampNeg)))] [] I L Q) : XS mX10_linkFrom 0 [(0, .ref 49), (1, .int v1)] [] I L Q := by
  refine x_aload_n 0 dX10_linkFrom_0 rfl rfl ?_
  refine xs_getr dX10_linkFrom_1 fl_X10_80 sh_49 rfl rf_3179 ?_
  refine x_aload_n 0 dX10_linkFrom_4 rfl rfl ?_
  refine xs_geti 3178 dX10_linkFrom_5 fl_X10_266 sh_49 rfl rfl ?_
  refine x_iconst (v := (1 : Int32)) dX10_linkFrom_8 (by decide) ?_
  refine x_isub dX10_linkFrom_9 ?_
  refine xs_iald 4544 (((I 3178 0) - (1 : Int32)).toNatClampNeg) dX10_linkFrom_10 sh_71 rfl rfl hb1 ?_
  refine x_istore_n [(0, .ref 49), (1, .int v1), (2, .int (I 4544 (((I 3178 0) - (1 : Int32)).toNatClampNeg)))] dX10_linkFrom_11 rfl (Nat.le_of_ble_eq_true rfl) rfl ?_
  refine x_aload_n 0 dX10_linkFrom_12 rfl rfl ?_
  refine xs_getr dX10_linkFrom_13 fl_X10_83 sh_49 rfl rf_3180 ?_
  refine x_aload_n 0 dX10_linkFrom_16 rfl rfl ?_
  refine xs_geti 3178 dX10_linkFrom_17 fl_X10_266 sh_49 rfl rfl ?_
  refine x_iconst (v := (1 : Int32)) dX10_linkFrom_20 (by decide) ?_
  refine x_isub dX10_linkFrom_21 ?_
  refine xs_iald 4608 (((I 3178 0) - (1 : Int32)).toNatClampNeg) dX10_linkFrom_22 sh_72 rfl rfl hb2 ?_
  refine x_istore_n [(0, .ref 49), (1, .int v1), (2, .int (I 4544 (((I 3178 0) - (1 : Int32)).toNatClampNeg))), (3, .int (I 4608 (((I 3178 0) - (1 : Int32)).toNatClampNeg)))] dX10_linkFrom_23 rfl (Nat.le_of_ble_eq_true rfl) rfl ?_
  refine x_iload_n 2 dX10_linkFrom_24 rfl rfl ?_
  refine x_iconst (v := (2 : Int32)) dX10_linkFrom_25 (by decide) ?_
  exact x_icmp_ne 56 dX10_linkFrom_26 (by decide) (fun h => K1 h) (fun h => x_sub [0, 1, 3] rfl (K2 h))
theorem bX10_linkFrom_29 {I : Nat → Nat → Int32} {L : Nat → Int64} {Q : Option Value → (Nat → Nat → Int32) → (Nat → Int64) → Prop} {v1 : Int32} {v3 : Int32} (hb1 : vp_in v3 14) (K1 : ((I 3200 (v3.toNatClampNeg)) = v1) → XS mX10_linkFrom 49 [(3, .int v3)] [] I L Q) (K2 : (¬ (I 3200 (v3.toNatClampNeg)) = v1) → XS mX10_linkFrom 39 [(0, .ref 49), (1, .int v1), (3, .int v3)] [] I L Q) : XS mX10_linkFrom 29 [(0, .ref 49), (1, .int v1), (3, .int v3)] [] I L Q := by
  refine x_aload_n 0 dX10_linkFrom_29 rfl rfl ?_
  refine xs_getr dX10_linkFrom_30 fl_X10_13 sh_49 rfl rf_3138 ?_
  refine x_iload_n 2 dX10_linkFrom_33 rfl rfl ?_
  refine xs_iald 3200 (v3.toNatClampNeg) dX10_linkFrom_34 sh_50 rfl rfl hb1 ?_
  refine x_iload_n 1 dX10_linkFrom_35 rfl rfl ?_
  exact x_icmp_eq 49 dX10_linkFrom_36 (by decide) (fun h => x_sub [2] rfl (K1 h)) (fun h => K2 h)
theorem bX10_linkFrom_39 {I : Nat → Nat → Int32} {L : Nat → Int64} {Q : Option Value → (Nat → Nat → Int32) → (Nat → Int64) → Prop} {v1 : Int32} {v3 : Int32} (hb1 : vp_in v3 14) (K1 : (¬ (I 3264 (v3.toNatClampNeg)) = v1) → XS mX10_linkFrom 53 [] [] I L Q) (K2 : ((I 3264 (v3.toNatClampNeg)) = v1) → XS mX10_linkFrom 49 [(3, .int v3)] [] I L Q) : XS mX10_linkFrom 39 [(0, .ref 49), (1, .int v1), (3, .int v3)] [] I L Q := by
  refine x_aload_n 0 dX10_linkFrom_39 rfl rfl ?_
  refine xs_getr dX10_linkFrom_40 fl_X10_17 sh_49 rfl rf_3139 ?_
  refine x_iload_n 2 dX10_linkFrom_43 rfl rfl ?_
  refine xs_iald 3264 (v3.toNatClampNeg) dX10_linkFrom_44 sh_51 rfl rfl hb1 ?_
  refine x_iload_n 1 dX10_linkFrom_45 rfl rfl ?_
  exact x_icmp_ne 53 dX10_linkFrom_46 (by decide) (fun h => x_sub [] rfl (K1 h)) (fun h => x_sub [2] rfl (K2 h))
theorem bX10_linkFrom_49 {I : Nat → Nat → Int32} {L : Nat → Int64} {Q : Option Value → (Nat → Nat → Int32) → (Nat → Int64) → Prop} {v3 : Int32}  (K : XS mX10_linkFrom 55 [] [.int v3] I L Q) : XS mX10_linkFrom 49 [(3, .int v3)] [] I L Q := by
  refine x_iload_n 0 dX10_linkFrom_49 rfl rfl ?_
  exact x_goto 55 dX10_linkFrom_50 (by decide) (x_sub [] rfl (K))
theorem bX10_linkFrom_53 {I : Nat → Nat → Int32} {L : Nat → Int64} {Q : Option Value → (Nat → Nat → Int32) → (Nat → Int64) → Prop}   (K : XS mX10_linkFrom 55 [] [.int (-13 : Int32)] I L Q) : XS mX10_linkFrom 53 [] [] I L Q := by
  refine x_bipush (v := (-13 : Int32)) dX10_linkFrom_53 (by decide) ?_
  exact K
theorem bX10_linkFrom_55 {I : Nat → Nat → Int32} {L : Nat → Int64} {Q : Option Value → (Nat → Nat → Int32) → (Nat → Int64) → Prop} {s0 : Int32}  (K : Q (some (.int s0)) I L) : XS mX10_linkFrom 55 [] [.int s0] I L Q := by
  exact xs_iret dX10_linkFrom_55 rfl rfl K
theorem bX10_linkFrom_56 {I : Nat → Nat → Int32} {L : Nat → Int64} {Q : Option Value → (Nat → Nat → Int32) → (Nat → Int64) → Prop} {v1 : Int32} {v2 : Int32} {v3 : Int32} (hb1 : vp_in ((29 : Int32) + v1) 37) (K : XS mX10_lays 0 [(0, .ref 49), (1, .int v2), (2, .int (I 3392 (((29 : Int32) + v1).toNatClampNeg)))] [] I L (fun r I' L' => XS mX10_linkFrom 70 [(0, .ref 49), (1, .int v1), (2, .int v2), (3, .int v3)] (r.toList ++ []) I' L' Q)) : XS mX10_linkFrom 56 [(0, .ref 49), (1, .int v1), (2, .int v2), (3, .int v3)] [] I L Q := by
  refine x_aload_n 0 dX10_linkFrom_56 rfl rfl ?_
  refine x_iload_n 2 dX10_linkFrom_57 rfl rfl ?_
  refine x_aload_n 0 dX10_linkFrom_58 rfl rfl ?_
  refine xs_getr dX10_linkFrom_59 fl_X10_23 sh_49 rfl rf_3141 ?_
  refine x_bipush (v := (29 : Int32)) dX10_linkFrom_62 (by decide) ?_
  refine x_iload_n 1 dX10_linkFrom_64 rfl rfl ?_
  refine x_iadd dX10_linkFrom_65 ?_
  refine xs_iald 3392 (((29 : Int32) + v1).toNatClampNeg) dX10_linkFrom_66 sh_53 rfl rfl hb1 ?_
  exact xs_callV mX10_lays [.int v2, .int (I 3392 (((29 : Int32) + v1).toNatClampNeg))] [] 49 10 2 _ rfl dX10_linkFrom_67 ml_X10_104 qX10_lays rfl ⟨Nat.le_of_ble_eq_true rfl, Nat.le_of_ble_eq_true rfl⟩ ⟨rfl, rfl⟩ (Nat.le_of_ble_eq_true rfl) sh_49 (by decide) rfl (Nat.le_of_ble_eq_true rfl) (K)
theorem bX10_linkFrom_70 {I : Nat → Nat → Int32} {L : Nat → Int64} {Q : Option Value → (Nat → Nat → Int32) → (Nat → Int64) → Prop} {v1 : Int32} {v2 : Int32} {v3 : Int32} (hb1 : vp_in ((29 : Int32) + v1) 37) (K : XS mX10_nextOf 0 [(0, .ref 49), (1, .int v1), (2, .int v3), (3, .int v2), (4, .int (I 3392 (((29 : Int32) + v1).toNatClampNeg)))] [] I L (fun r I' L' => XS mX10_linkFrom 86 [(0, .ref 49), (1, .int v1)] (r.toList ++ []) I' L' Q)) : XS mX10_linkFrom 70 [(0, .ref 49), (1, .int v1), (2, .int v2), (3, .int v3)] [] I L Q := by
  refine x_aload_n 0 dX10_linkFrom_70 rfl rfl ?_
  refine x_iload_n 1 dX10_linkFrom_71 rfl rfl ?_
  refine x_iload_n 3 dX10_linkFrom_72 rfl rfl ?_
  refine x_iload_n 2 dX10_linkFrom_73 rfl rfl ?_
  refine x_aload_n 0 dX10_linkFrom_74 rfl rfl ?_
  refine xs_getr dX10_linkFrom_75 fl_X10_23 sh_49 rfl rf_3141 ?_
  refine x_bipush (v := (29 : Int32)) dX10_linkFrom_78 (by decide) ?_
  refine x_iload_n 1 dX10_linkFrom_80 rfl rfl ?_
  refine x_iadd dX10_linkFrom_81 ?_
  refine xs_iald 3392 (((29 : Int32) + v1).toNatClampNeg) dX10_linkFrom_82 sh_53 rfl rfl hb1 ?_
  refine x_sub [0, 1] rfl ?_
  exact xs_callV mX10_nextOf [.int v1, .int v3, .int v2, .int (I 3392 (((29 : Int32) + v1).toNatClampNeg))] [] 49 10 4 _ rfl dX10_linkFrom_83 ml_X10_111 qX10_nextOf rfl ⟨Nat.le_of_ble_eq_true rfl, Nat.le_of_ble_eq_true rfl⟩ ⟨rfl, rfl⟩ (Nat.le_of_ble_eq_true rfl) sh_49 (by decide) rfl (Nat.le_of_ble_eq_true rfl) (K)
theorem bX10_linkFrom_86 {I : Nat → Nat → Int32} {L : Nat → Int64} {Q : Option Value → (Nat → Nat → Int32) → (Nat → Int64) → Prop} {v1 : Int32} {s0 : Int32}  (K1 : (¬ s0 = (-1 : Int32)) → XS mX10_linkFrom 99 [(0, .ref 49), (1, .int v1), (4, .int s0)] [] I L Q) (K2 : (s0 = (-1 : Int32)) → XS mX10_linkFrom 94 [] [] I L Q) : XS mX10_linkFrom 86 [(0, .ref 49), (1, .int v1)] [.int s0] I L Q := by
  refine x_istore [(0, .ref 49), (1, .int v1), (4, .int s0)] dX10_linkFrom_86 (Nat.le_of_ble_eq_true rfl) rfl ?_
  refine x_iload 2 dX10_linkFrom_88 rfl ?_
  refine x_iconst (v := (-1 : Int32)) dX10_linkFrom_90 (by decide) ?_
  exact x_icmp_ne 99 dX10_linkFrom_91 (by decide) (fun h => K1 h) (fun h => x_sub [] rfl (K2 h))
theorem bX10_linkFrom_94 {I : Nat → Nat → Int32} {L : Nat → Int64} {Q : Option Value → (Nat → Nat → Int32) → (Nat → Int64) → Prop}   (K : XS mX10_linkFrom 106 [] [.int (-11 : Int32)] I L Q) : XS mX10_linkFrom 94 [] [] I L Q := by
  refine x_bipush (v := (-11 : Int32)) dX10_linkFrom_94 (by decide) ?_
  exact x_goto 106 dX10_linkFrom_96 (by decide) (K)
theorem bX10_linkFrom_99 {I : Nat → Nat → Int32} {L : Nat → Int64} {Q : Option Value → (Nat → Nat → Int32) → (Nat → Int64) → Prop} {v1 : Int32} {v4 : Int32}  (K : XS mX10_linkOf 0 [(0, .ref 49), (1, .int v1), (2, .int v4)] [] I L (fun r I' L' => XS mX10_linkFrom 106 [] (r.toList ++ []) I' L' Q)) : XS mX10_linkFrom 99 [(0, .ref 49), (1, .int v1), (4, .int v4)] [] I L Q := by
  refine x_aload_n 0 dX10_linkFrom_99 rfl rfl ?_
  refine x_iload_n 1 dX10_linkFrom_100 rfl rfl ?_
  refine x_iload 2 dX10_linkFrom_101 rfl ?_
  refine x_sub [] rfl ?_
  exact xs_callV mX10_linkOf [.int v1, .int v4] [] 49 10 2 _ rfl dX10_linkFrom_103 ml_X10_101 qX10_linkOf rfl ⟨Nat.le_of_ble_eq_true rfl, Nat.le_of_ble_eq_true rfl⟩ ⟨rfl, rfl⟩ (Nat.le_of_ble_eq_true rfl) sh_49 (by decide) rfl (Nat.le_of_ble_eq_true rfl) (K)
theorem bX10_linkFrom_106 {I : Nat → Nat → Int32} {L : Nat → Int64} {Q : Option Value → (Nat → Nat → Int32) → (Nat → Int64) → Prop} {s0 : Int32}  (K : Q (some (.int s0)) I L) : XS mX10_linkFrom 106 [] [.int s0] I L Q := by
  exact xs_iret dX10_linkFrom_106 rfl rfl K
theorem bX10_goesFrom_0 {I : Nat → Nat → Int32} {L : Nat → Int64} {Q : Option Value → (Nat → Nat → Int32) → (Nat → Int64) → Prop} {v1 : Int32}  (K : XS mX10_goesFrom 2 [(0, .ref 49), (2, .int v1)] [] I L Q) : XS mX10_goesFrom 0 [(0, .ref 49), (1, .int v1)] [] I L Q := by
  refine x_iload_n 1 dX10_goesFrom_0 rfl rfl ?_
  refine x_istore_n [(0, .ref 49), (1, .int v1), (2, .int v1)] dX10_goesFrom_1 rfl (Nat.le_of_ble_eq_true rfl) rfl ?_
  exact x_sub [0, 2] rfl (K)
theorem bX10_goesFrom_2 {I : Nat → Nat → Int32} {L : Nat → Int64} {Q : Option Value → (Nat → Nat → Int32) → (Nat → Int64) → Prop} {v2 : Int32}  (K : XS mX10_leavesOwn 0 [(0, .ref 49), (1, .int v2)] [] I L (fun r I' L' => XS mX10_goesFrom 7 [(0, .ref 49), (2, .int v2)] (r.toList ++ []) I' L' Q)) : XS mX10_goesFrom 2 [(0, .ref 49), (2, .int v2)] [] I L Q := by
  refine x_aload_n 0 dX10_goesFrom_2 rfl rfl ?_
  refine x_iload_n 1 dX10_goesFrom_3 rfl rfl ?_
  exact xs_callV mX10_leavesOwn [.int v2] [] 49 10 1 _ rfl dX10_goesFrom_4 ml_X10_274 qX10_leavesOwn rfl ⟨Nat.le_of_ble_eq_true rfl, Nat.le_of_ble_eq_true rfl⟩ ⟨rfl, rfl⟩ (Nat.le_of_ble_eq_true rfl) sh_49 (by decide) rfl (Nat.le_of_ble_eq_true rfl) (K)
theorem bX10_goesFrom_7 {I : Nat → Nat → Int32} {L : Nat → Int64} {Q : Option Value → (Nat → Nat → Int32) → (Nat → Int64) → Prop} {v2 : Int32}  (K1 : (¬ (I 3178 0) = 0) → XS mX10_goesFrom 16 [(0, .ref 49), (2, .int v2)] [] I L Q) (K2 : ((I 3178 0) = 0) → XS mX10_goesFrom 14 [(2, .int v2)] [] I L Q) : XS mX10_goesFrom 7 [(0, .ref 49), (2, .int v2)] [] I L Q := by
  refine x_aload_n 0 dX10_goesFrom_7 rfl rfl ?_
  refine xs_geti 3178 dX10_goesFrom_8 fl_X10_266 sh_49 rfl rfl ?_
  exact x_if_ne 16 dX10_goesFrom_11 (by decide) (fun h => K1 h) (fun h => x_sub [1] rfl (K2 h))
theorem bX10_goesFrom_14 {I : Nat → Nat → Int32} {L : Nat → Int64} {Q : Option Value → (Nat → Nat → Int32) → (Nat → Int64) → Prop} {v2 : Int32}  (K : Q (some (.int v2)) I L) : XS mX10_goesFrom 14 [(2, .int v2)] [] I L Q := by
  refine x_iload_n 0 dX10_goesFrom_14 rfl rfl ?_
  exact xs_iret dX10_goesFrom_15 rfl rfl K
theorem bX10_goesFrom_16 {I : Nat → Nat → Int32} {L : Nat → Int64} {Q : Option Value → (Nat → Nat → Int32) → (Nat → Int64) → Prop} {v2 : Int32}  (K1 : (¬ (I 3176 0) = (20 : Int32)) → XS mX10_goesFrom 28 [(0, .ref 49), (2, .int v2)] [] I L Q) (K2 : ((I 3176 0) = (20 : Int32)) → XS mX10_goesFrom 25 [] [] I L Q) : XS mX10_goesFrom 16 [(0, .ref 49), (2, .int v2)] [] I L Q := by
  refine x_aload_n 0 dX10_goesFrom_16 rfl rfl ?_
  refine xs_geti 3176 dX10_goesFrom_17 fl_X10_74 sh_49 rfl rfl ?_
  refine x_bipush (v := (20 : Int32)) dX10_goesFrom_20 (by decide) ?_
  exact x_icmp_ne 28 dX10_goesFrom_22 (by decide) (fun h => K1 h) (fun h => x_sub [] rfl (K2 h))
theorem bX10_goesFrom_25 {I : Nat → Nat → Int32} {L : Nat → Int64} {Q : Option Value → (Nat → Nat → Int32) → (Nat → Int64) → Prop}   (K : Q (some (.int (-14 : Int32))) I L) : XS mX10_goesFrom 25 [] [] I L Q := by
  refine x_bipush (v := (-14 : Int32)) dX10_goesFrom_25 (by decide) ?_
  exact xs_iret dX10_goesFrom_27 rfl rfl K
theorem bX10_goesFrom_28 {I : Nat → Nat → Int32} {L : Nat → Int64} {Q : Option Value → (Nat → Nat → Int32) → (Nat → Int64) → Prop} {v2 : Int32}  (K : XS mX10_linkFrom 0 [(0, .ref 49), (1, .int v2)] [] I L (fun r I' L' => XS mX10_goesFrom 33 [(0, .ref 49), (2, .int v2)] (r.toList ++ []) I' L' Q)) : XS mX10_goesFrom 28 [(0, .ref 49), (2, .int v2)] [] I L Q := by
  refine x_aload_n 0 dX10_goesFrom_28 rfl rfl ?_
  refine x_iload_n 1 dX10_goesFrom_29 rfl rfl ?_
  exact xs_callV mX10_linkFrom [.int v2] [] 49 10 1 _ rfl dX10_goesFrom_30 ml_X10_277 qX10_linkFrom rfl ⟨Nat.le_of_ble_eq_true rfl, Nat.le_of_ble_eq_true rfl⟩ ⟨rfl, rfl⟩ (Nat.le_of_ble_eq_true rfl) sh_49 (by decide) rfl (Nat.le_of_ble_eq_true rfl) (K)
theorem bX10_goesFrom_33 {I : Nat → Nat → Int32} {L : Nat → Int64} {Q : Option Value → (Nat → Nat → Int32) → (Nat → Int64) → Prop} {v2 : Int32} {s0 : Int32}  (K1 : (0 ≤ s0) → XS mX10_goesFrom 40 [(0, .ref 49), (2, .int v2), (3, .int s0)] [] I L Q) (K2 : (¬ 0 ≤ s0) → XS mX10_goesFrom 38 [(3, .int s0)] [] I L Q) : XS mX10_goesFrom 33 [(0, .ref 49), (2, .int v2)] [.int s0] I L Q := by
  refine x_istore_n [(0, .ref 49), (2, .int v2), (3, .int s0)] dX10_goesFrom_33 rfl (Nat.le_of_ble_eq_true rfl) rfl ?_
  refine x_iload_n 2 dX10_goesFrom_34 rfl rfl ?_
  exact x_if_ge 40 dX10_goesFrom_35 (by decide) (fun h => K1 h) (fun h => x_sub [2] rfl (K2 h))
theorem bX10_goesFrom_38 {I : Nat → Nat → Int32} {L : Nat → Int64} {Q : Option Value → (Nat → Nat → Int32) → (Nat → Int64) → Prop} {v3 : Int32}  (K : Q (some (.int v3)) I L) : XS mX10_goesFrom 38 [(3, .int v3)] [] I L Q := by
  refine x_iload_n 0 dX10_goesFrom_38 rfl rfl ?_
  exact xs_iret dX10_goesFrom_39 rfl rfl K
theorem bX10_goesFrom_40 {I : Nat → Nat → Int32} {L : Nat → Int64} {Q : Option Value → (Nat → Nat → Int32) → (Nat → Int64) → Prop} {v2 : Int32} {v3 : Int32}  (K : XS mX10_has 0 [(0, .int (I 3392 28)), (1, .int v3)] [] I L (fun r I' L' => XS mX10_goesFrom 51 [(0, .ref 49), (2, .int v2), (3, .int v3)] (r.toList ++ []) I' L' Q)) : XS mX10_goesFrom 40 [(0, .ref 49), (2, .int v2), (3, .int v3)] [] I L Q := by
  refine x_aload_n 0 dX10_goesFrom_40 rfl rfl ?_
  refine xs_getr dX10_goesFrom_41 fl_X10_23 sh_49 rfl rf_3141 ?_
  refine x_bipush (v := (28 : Int32)) dX10_goesFrom_44 (by decide) ?_
  refine xs_iald 3392 (28) dX10_goesFrom_46 sh_53 rfl (by decide) (x_vpin (by decide)) ?_
  refine x_iload_n 2 dX10_goesFrom_47 rfl rfl ?_
  exact xs_callS mX10_has [.int (I 3392 28), .int v3] [] 2 _ rfl dX10_goesFrom_48 ml_X10_93 qX10_has rfl ⟨Nat.le_of_ble_eq_true rfl, Nat.le_of_ble_eq_true rfl⟩ ⟨rfl, rfl⟩ (Nat.le_of_ble_eq_true rfl) (Nat.le_of_ble_eq_true rfl) (K)
theorem bX10_goesFrom_51 {I : Nat → Nat → Int32} {L : Nat → Int64} {Q : Option Value → (Nat → Nat → Int32) → (Nat → Int64) → Prop} {v2 : Int32} {v3 : Int32} {s0 : Int32}  (K1 : (s0 = 0) → XS mX10_goesFrom 123 [(0, .ref 49), (2, .int v2), (3, .int v3)] [] I L Q) (K2 : (¬ s0 = 0) → XS mX10_goesFrom 54 [(0, .ref 49), (2, .int v2), (3, .int v3)] [] I L Q) : XS mX10_goesFrom 51 [(0, .ref 49), (2, .int v2), (3, .int v3)] [.int s0] I L Q := by
  exact x_if_eq 123 dX10_goesFrom_51 (by decide) (fun h => K1 h) (fun h => K2 h)
theorem bX10_goesFrom_54 {I : Nat → Nat → Int32} {L : Nat → Int64} {Q : Option Value → (Nat → Nat → Int32) → (Nat → Int64) → Prop} {v2 : Int32} {v3 : Int32} (hb1 : vp_in ((I 3178 0) - (1 : Int32)) 24) (K1 : (¬ (I 4544 (((I 3178 0) - (1 : Int32)).toNatClampNeg)) = (2 : Int32)) → XS mX10_goesFrom 78 [(0, .ref 49), (2, .int v2), (3, .int v3)] [.int (I 3178 0), .ref 49] I L Q) (K2 : ((I 4544 (((I 3178 0) - (1 : Int32)).toNatClampNeg)) = (2 : Int32)) → XS mX10_goesFrom 74 [(0, .ref 49), (2, .int v2), (3, .int v3)] [.int (I 3178 0), .ref 49] I L Q) : XS mX10_goesFrom 54 [(0, .ref 49), (2, .int v2), (3, .int v3)] [] I L Q := by
  refine x_aload_n 0 dX10_goesFrom_54 rfl rfl ?_
  refine x_dup dX10_goesFrom_55 rfl ?_
  refine xs_geti 3178 dX10_goesFrom_56 fl_X10_266 sh_49 rfl rfl ?_
  refine x_aload_n 0 dX10_goesFrom_59 rfl rfl ?_
  refine xs_getr dX10_goesFrom_60 fl_X10_80 sh_49 rfl rf_3179 ?_
  refine x_aload_n 0 dX10_goesFrom_63 rfl rfl ?_
  refine xs_geti 3178 dX10_goesFrom_64 fl_X10_266 sh_49 rfl rfl ?_
  refine x_iconst (v := (1 : Int32)) dX10_goesFrom_67 (by decide) ?_
  refine x_isub dX10_goesFrom_68 ?_
  refine xs_iald 4544 (((I 3178 0) - (1 : Int32)).toNatClampNeg) dX10_goesFrom_69 sh_71 rfl rfl hb1 ?_
  refine x_iconst (v := (2 : Int32)) dX10_goesFrom_70 (by decide) ?_
  exact x_icmp_ne 78 dX10_goesFrom_71 (by decide) (fun h => K1 h) (fun h => K2 h)
theorem bX10_goesFrom_74 {I : Nat → Nat → Int32} {L : Nat → Int64} {Q : Option Value → (Nat → Nat → Int32) → (Nat → Int64) → Prop} {v2 : Int32} {v3 : Int32} {s1 : Int32}  (K : XS mX10_goesFrom 79 [(0, .ref 49), (2, .int v2), (3, .int v3)] [.int (1 : Int32), .int s1, .ref 49] I L Q) : XS mX10_goesFrom 74 [(0, .ref 49), (2, .int v2), (3, .int v3)] [.int s1, .ref 49] I L Q := by
  refine x_iconst (v := (1 : Int32)) dX10_goesFrom_74 (by decide) ?_
  exact x_goto 79 dX10_goesFrom_75 (by decide) (K)
theorem bX10_goesFrom_78 {I : Nat → Nat → Int32} {L : Nat → Int64} {Q : Option Value → (Nat → Nat → Int32) → (Nat → Int64) → Prop} {v2 : Int32} {v3 : Int32} {s1 : Int32}  (K : XS mX10_goesFrom 79 [(0, .ref 49), (2, .int v2), (3, .int v3)] [.int (0 : Int32), .int s1, .ref 49] I L Q) : XS mX10_goesFrom 78 [(0, .ref 49), (2, .int v2), (3, .int v3)] [.int s1, .ref 49] I L Q := by
  refine x_iconst (v := (0 : Int32)) dX10_goesFrom_78 (by decide) ?_
  exact K
theorem bX10_goesFrom_79 {I : Nat → Nat → Int32} {L : Nat → Int64} {Q : Option Value → (Nat → Nat → Int32) → (Nat → Int64) → Prop} {v2 : Int32} {v3 : Int32} {s1 : Int32} {s2 : Int32} (hb1 : vp_in v3 14) (hb2 : vp_in v3 14) (K : XS mX10_otherEnd 0 [(0, .ref 49), (1, .int v3), (2, .int v2)] [] (x_up (x_up (x_up I 3178 0 (s1 - s2)) 3328 (v3.toNatClampNeg) (((x_up I 3178 0 (s1 - s2)) 3328 (v3.toNatClampNeg)) + (1 : Int32))) 3176 0 (((x_up (x_up I 3178 0 (s1 - s2)) 3328 (v3.toNatClampNeg) (((x_up I 3178 0 (s1 - s2)) 3328 (v3.toNatClampNeg)) + (1 : Int32))) 3176 0) + (1 : Int32))) L (fun r I' L' => XS mX10_goesFrom 109 [(0, .ref 49)] (r.toList ++ []) I' L' Q)) : XS mX10_goesFrom 79 [(0, .ref 49), (2, .int v2), (3, .int v3)] [.int s2, .int s1, .ref 49] I L Q := by
  refine x_isub dX10_goesFrom_79 ?_
  refine xs_puti 3178 dX10_goesFrom_80 fl_X10_266 sh_49 rfl rfl rfl ?_
  refine x_aload_n 0 dX10_goesFrom_83 rfl rfl ?_
  refine xs_getr dX10_goesFrom_84 fl_X10_20 sh_49 rfl rf_3140 ?_
  refine x_iload_n 2 dX10_goesFrom_87 rfl rfl ?_
  refine x_dup2 dX10_goesFrom_88 rfl rfl ?_
  refine xs_iald 3328 (v3.toNatClampNeg) dX10_goesFrom_89 sh_52 rfl rfl hb1 ?_
  refine x_iconst (v := (1 : Int32)) dX10_goesFrom_90 (by decide) ?_
  refine x_iadd dX10_goesFrom_91 ?_
  refine xs_iast 3328 (v3.toNatClampNeg) dX10_goesFrom_92 sh_52 rfl rfl hb2 ?_
  refine x_aload_n 0 dX10_goesFrom_93 rfl rfl ?_
  refine x_dup dX10_goesFrom_94 rfl ?_
  refine xs_geti 3176 dX10_goesFrom_95 fl_X10_74 sh_49 rfl rfl ?_
  refine x_iconst (v := (1 : Int32)) dX10_goesFrom_98 (by decide) ?_
  refine x_iadd dX10_goesFrom_99 ?_
  refine xs_puti 3176 dX10_goesFrom_100 fl_X10_74 sh_49 rfl rfl rfl ?_
  refine x_aload_n 0 dX10_goesFrom_103 rfl rfl ?_
  refine x_iload_n 2 dX10_goesFrom_104 rfl rfl ?_
  refine x_iload_n 1 dX10_goesFrom_105 rfl rfl ?_
  refine x_sub [0] rfl ?_
  exact xs_callV mX10_otherEnd [.int v3, .int v2] [] 49 10 2 _ rfl dX10_goesFrom_106 ml_X10_269 qX10_otherEnd rfl ⟨Nat.le_of_ble_eq_true rfl, Nat.le_of_ble_eq_true rfl⟩ ⟨rfl, rfl⟩ (Nat.le_of_ble_eq_true rfl) sh_49 (by decide) rfl (Nat.le_of_ble_eq_true rfl) (K)
theorem bX10_goesFrom_109 {I : Nat → Nat → Int32} {L : Nat → Int64} {Q : Option Value → (Nat → Nat → Int32) → (Nat → Int64) → Prop} {s0 : Int32} (hb1 : vp_in (I 3176 0) 21) (K : XS mX10_goesFrom 135 [(0, .ref 49), (2, .int s0)] [] (x_up I 4480 ((I 3176 0).toNatClampNeg) s0) L Q) : XS mX10_goesFrom 109 [(0, .ref 49)] [.int s0] I L Q := by
  refine x_istore_n [(0, .ref 49), (2, .int s0)] dX10_goesFrom_109 rfl (Nat.le_of_ble_eq_true rfl) rfl ?_
  refine x_aload_n 0 dX10_goesFrom_110 rfl rfl ?_
  refine xs_getr dX10_goesFrom_111 fl_X10_77 sh_49 rfl rf_3177 ?_
  refine x_aload_n 0 dX10_goesFrom_114 rfl rfl ?_
  refine xs_geti 3176 dX10_goesFrom_115 fl_X10_74 sh_49 rfl rfl ?_
  refine x_iload_n 1 dX10_goesFrom_118 rfl rfl ?_
  refine xs_iast 4480 ((I 3176 0).toNatClampNeg) dX10_goesFrom_119 sh_70 rfl rfl hb1 ?_
  exact x_goto 135 dX10_goesFrom_120 (by decide) (K)
theorem bX10_goesFrom_123 {I : Nat → Nat → Int32} {L : Nat → Int64} {Q : Option Value → (Nat → Nat → Int32) → (Nat → Int64) → Prop} {v2 : Int32} {v3 : Int32}  (K : XS mX10_mends 0 [(0, .ref 49), (1, .int v2), (2, .int v3)] [] I L (fun r I' L' => XS mX10_goesFrom 129 [(0, .ref 49), (2, .int v2)] (r.toList ++ []) I' L' Q)) : XS mX10_goesFrom 123 [(0, .ref 49), (2, .int v2), (3, .int v3)] [] I L Q := by
  refine x_aload_n 0 dX10_goesFrom_123 rfl rfl ?_
  refine x_iload_n 1 dX10_goesFrom_124 rfl rfl ?_
  refine x_iload_n 2 dX10_goesFrom_125 rfl rfl ?_
  refine x_sub [0, 1] rfl ?_
  exact xs_callV mX10_mends [.int v2, .int v3] [] 49 10 2 _ rfl dX10_goesFrom_126 ml_X10_280 qX10_mends rfl ⟨Nat.le_of_ble_eq_true rfl, Nat.le_of_ble_eq_true rfl⟩ ⟨rfl, rfl⟩ (Nat.le_of_ble_eq_true rfl) sh_49 (by decide) rfl (Nat.le_of_ble_eq_true rfl) (K)
theorem bX10_goesFrom_129 {I : Nat → Nat → Int32} {L : Nat → Int64} {Q : Option Value → (Nat → Nat → Int32) → (Nat → Int64) → Prop} {v2 : Int32} {s0 : Int32}  (K1 : (¬ s0 = 0) → XS mX10_goesFrom 135 [(0, .ref 49), (2, .int v2)] [] I L Q) (K2 : (s0 = 0) → XS mX10_goesFrom 132 [] [] I L Q) : XS mX10_goesFrom 129 [(0, .ref 49), (2, .int v2)] [.int s0] I L Q := by
  exact x_if_ne 135 dX10_goesFrom_129 (by decide) (fun h => K1 h) (fun h => x_sub [] rfl (K2 h))
theorem bX10_goesFrom_132 {I : Nat → Nat → Int32} {L : Nat → Int64} {Q : Option Value → (Nat → Nat → Int32) → (Nat → Int64) → Prop}   (K : Q (some (.int (-12 : Int32))) I L) : XS mX10_goesFrom 132 [] [] I L Q := by
  refine x_bipush (v := (-12 : Int32)) dX10_goesFrom_132 (by decide) ?_
  exact xs_iret dX10_goesFrom_134 rfl rfl K
theorem bX10_goesFrom_135 {I : Nat → Nat → Int32} {L : Nat → Int64} {Q : Option Value → (Nat → Nat → Int32) → (Nat → Int64) → Prop} {v2 : Int32}  (K : XS mX10_goesFrom 2 [(0, .ref 49), (2, .int v2)] [] I L Q) : XS mX10_goesFrom 135 [(0, .ref 49), (2, .int v2)] [] I L Q := by
  exact x_goto 2 dX10_goesFrom_135 (by decide) (K)
theorem bX10_send_0 {I : Nat → Nat → Int32} {L : Nat → Int64} {Q : Option Value → (Nat → Nat → Int32) → (Nat → Int64) → Prop} {v1 : Int32}  (K : XS mX10_isNode 0 [(0, .ref 49), (1, .int v1)] [] I L (fun r I' L' => XS mX10_send 5 [(0, .ref 49), (1, .int v1)] (r.toList ++ []) I' L' Q)) : XS mX10_send 0 [(0, .ref 49), (1, .int v1)] [] I L Q := by
  refine x_aload_n 0 dX10_send_0 rfl rfl ?_
  refine x_iload_n 1 dX10_send_1 rfl rfl ?_
  exact xs_callV mX10_isNode [.int v1] [] 49 10 1 _ rfl dX10_send_2 ml_X10_234 qX10_isNode rfl ⟨Nat.le_of_ble_eq_true rfl, Nat.le_of_ble_eq_true rfl⟩ ⟨rfl, rfl⟩ (Nat.le_of_ble_eq_true rfl) sh_49 (by decide) rfl (Nat.le_of_ble_eq_true rfl) (K)
theorem bX10_send_5 {I : Nat → Nat → Int32} {L : Nat → Int64} {Q : Option Value → (Nat → Nat → Int32) → (Nat → Int64) → Prop} {v1 : Int32} {s0 : Int32}  (K1 : (¬ s0 = 0) → XS mX10_send 11 [(0, .ref 49), (1, .int v1)] [] I L Q) (K2 : (s0 = 0) → XS mX10_send 8 [] [] I L Q) : XS mX10_send 5 [(0, .ref 49), (1, .int v1)] [.int s0] I L Q := by
  exact x_if_ne 11 dX10_send_5 (by decide) (fun h => K1 h) (fun h => x_sub [] rfl (K2 h))
theorem bX10_send_8 {I : Nat → Nat → Int32} {L : Nat → Int64} {Q : Option Value → (Nat → Nat → Int32) → (Nat → Int64) → Prop}   (K : Q (some (.int (-2 : Int32))) I L) : XS mX10_send 8 [] [] I L Q := by
  refine x_bipush (v := (-2 : Int32)) dX10_send_8 (by decide) ?_
  exact xs_iret dX10_send_10 rfl rfl K
theorem bX10_send_11 {I : Nat → Nat → Int32} {L : Nat → Int64} {Q : Option Value → (Nat → Nat → Int32) → (Nat → Int64) → Prop} {v1 : Int32}  (K : XS mX10_send 50 [(0, .ref 49), (1, .int v1), (2, .int (((x_up (x_up (x_up (x_up (x_up I 3171 0 ((I 3171 0) + (1 : Int32))) 3175 0 (0 : Int32)) 3176 0 (0 : Int32)) 4480 0 v1) 3178 0 (0 : Int32)) 3144 0) - (1 : Int32)))] [] (x_up (x_up (x_up (x_up (x_up I 3171 0 ((I 3171 0) + (1 : Int32))) 3175 0 (0 : Int32)) 3176 0 (0 : Int32)) 4480 0 v1) 3178 0 (0 : Int32)) L Q) : XS mX10_send 11 [(0, .ref 49), (1, .int v1)] [] I L Q := by
  refine x_aload_n 0 dX10_send_11 rfl rfl ?_
  refine x_dup dX10_send_12 rfl ?_
  refine xs_geti 3171 dX10_send_13 fl_X10_206 sh_49 rfl rfl ?_
  refine x_iconst (v := (1 : Int32)) dX10_send_16 (by decide) ?_
  refine x_iadd dX10_send_17 ?_
  refine xs_puti 3171 dX10_send_18 fl_X10_206 sh_49 rfl rfl rfl ?_
  refine x_aload_n 0 dX10_send_21 rfl rfl ?_
  refine x_iconst (v := (0 : Int32)) dX10_send_22 (by decide) ?_
  refine xs_puti 3175 dX10_send_23 fl_X10_218 sh_49 rfl rfl rfl ?_
  refine x_aload_n 0 dX10_send_26 rfl rfl ?_
  refine x_iconst (v := (0 : Int32)) dX10_send_27 (by decide) ?_
  refine xs_puti 3176 dX10_send_28 fl_X10_74 sh_49 rfl rfl rfl ?_
  refine x_aload_n 0 dX10_send_31 rfl rfl ?_
  refine xs_getr dX10_send_32 fl_X10_77 sh_49 rfl rf_3177 ?_
  refine x_iconst (v := (0 : Int32)) dX10_send_35 (by decide) ?_
  refine x_iload_n 1 dX10_send_36 rfl rfl ?_
  refine xs_iast 4480 (0) dX10_send_37 sh_70 rfl (by decide) (x_vpin (by decide)) ?_
  refine x_aload_n 0 dX10_send_38 rfl rfl ?_
  refine x_iconst (v := (0 : Int32)) dX10_send_39 (by decide) ?_
  refine xs_puti 3178 dX10_send_40 fl_X10_266 sh_49 rfl rfl rfl ?_
  refine x_aload_n 0 dX10_send_43 rfl rfl ?_
  refine xs_geti 3144 dX10_send_44 fl_X10_174 sh_49 rfl rfl ?_
  refine x_iconst (v := (1 : Int32)) dX10_send_47 (by decide) ?_
  refine x_isub dX10_send_48 ?_
  refine x_istore_n [(0, .ref 49), (1, .int v1), (2, .int (((x_up (x_up (x_up (x_up (x_up I 3171 0 ((I 3171 0) + (1 : Int32))) 3175 0 (0 : Int32)) 3176 0 (0 : Int32)) 4480 0 v1) 3178 0 (0 : Int32)) 3144 0) - (1 : Int32)))] dX10_send_49 rfl (Nat.le_of_ble_eq_true rfl) rfl ?_
  exact K
theorem bX10_send_50 {I : Nat → Nat → Int32} {L : Nat → Int64} {Q : Option Value → (Nat → Nat → Int32) → (Nat → Int64) → Prop} {v1 : Int32} {v2 : Int32}  (K1 : (v2 < 0) → XS mX10_send 76 [(0, .ref 49), (1, .int v1)] [] I L Q) (K2 : (¬ v2 < 0) → XS mX10_send 54 [(0, .ref 49), (1, .int v1), (2, .int v2)] [] I L Q) : XS mX10_send 50 [(0, .ref 49), (1, .int v1), (2, .int v2)] [] I L Q := by
  refine x_iload_n 2 dX10_send_50 rfl rfl ?_
  exact x_if_lt 76 dX10_send_51 (by decide) (fun h => x_sub [0, 1] rfl (K1 h)) (fun h => K2 h)
theorem bX10_send_54 {I : Nat → Nat → Int32} {L : Nat → Int64} {Q : Option Value → (Nat → Nat → Int32) → (Nat → Int64) → Prop} {v1 : Int32} {v2 : Int32} (hb1 : vp_in v2 8) (hb2 : vp_in v2 8) (K : XS mX10_bears 0 [(0, .ref 49), (1, .int (I 3520 (v2.toNatClampNeg))), (2, .int (I 3584 (v2.toNatClampNeg)))] [] I L (fun r I' L' => XS mX10_send 70 [(0, .ref 49), (1, .int v1), (2, .int v2)] (r.toList ++ []) I' L' Q)) : XS mX10_send 54 [(0, .ref 49), (1, .int v1), (2, .int v2)] [] I L Q := by
  refine x_aload_n 0 dX10_send_54 rfl rfl ?_
  refine x_aload_n 0 dX10_send_55 rfl rfl ?_
  refine xs_getr dX10_send_56 fl_X10_29 sh_49 rfl rf_3145 ?_
  refine x_iload_n 2 dX10_send_59 rfl rfl ?_
  refine xs_iald 3520 (v2.toNatClampNeg) dX10_send_60 sh_55 rfl rfl hb1 ?_
  refine x_aload_n 0 dX10_send_61 rfl rfl ?_
  refine xs_getr dX10_send_62 fl_X10_32 sh_49 rfl rf_3146 ?_
  refine x_iload_n 2 dX10_send_65 rfl rfl ?_
  refine xs_iald 3584 (v2.toNatClampNeg) dX10_send_66 sh_56 rfl rfl hb2 ?_
  exact xs_callV mX10_bears [.int (I 3520 (v2.toNatClampNeg)), .int (I 3584 (v2.toNatClampNeg))] [] 49 10 2 _ rfl dX10_send_67 ml_X10_272 qX10_bears rfl ⟨Nat.le_of_ble_eq_true rfl, Nat.le_of_ble_eq_true rfl⟩ ⟨rfl, rfl⟩ (Nat.le_of_ble_eq_true rfl) sh_49 (by decide) rfl (Nat.le_of_ble_eq_true rfl) (K)
theorem bX10_send_70 {I : Nat → Nat → Int32} {L : Nat → Int64} {Q : Option Value → (Nat → Nat → Int32) → (Nat → Int64) → Prop} {v1 : Int32} {v2 : Int32}  (K : XS mX10_send 50 [(0, .ref 49), (1, .int v1), (2, .int (v2 + (-1 : Int32)))] [] I L Q) : XS mX10_send 70 [(0, .ref 49), (1, .int v1), (2, .int v2)] [] I L Q := by
  refine x_iinc 2 (v2 + (-1 : Int32)) [(0, .ref 49), (1, .int v1), (2, .int (v2 + (-1 : Int32)))] dX10_send_70 rfl rfl (Nat.le_of_ble_eq_true rfl) rfl ?_
  exact x_goto 50 dX10_send_73 (by decide) (K)
theorem bX10_send_76 {I : Nat → Nat → Int32} {L : Nat → Int64} {Q : Option Value → (Nat → Nat → Int32) → (Nat → Int64) → Prop} {v1 : Int32}  (K : XS mX10_goesFrom 0 [(0, .ref 49), (1, .int v1)] [] I L (fun r I' L' => XS mX10_send 81 [(0, .ref 49)] (r.toList ++ []) I' L' Q)) : XS mX10_send 76 [(0, .ref 49), (1, .int v1)] [] I L Q := by
  refine x_aload_n 0 dX10_send_76 rfl rfl ?_
  refine x_iload_n 1 dX10_send_77 rfl rfl ?_
  refine x_sub [0] rfl ?_
  exact xs_callV mX10_goesFrom [.int v1] [] 49 10 1 _ rfl dX10_send_78 ml_X10_283 qX10_goesFrom rfl ⟨Nat.le_of_ble_eq_true rfl, Nat.le_of_ble_eq_true rfl⟩ ⟨rfl, rfl⟩ (Nat.le_of_ble_eq_true rfl) sh_49 (by decide) rfl (Nat.le_of_ble_eq_true rfl) (K)
theorem bX10_send_81 {I : Nat → Nat → Int32} {L : Nat → Int64} {Q : Option Value → (Nat → Nat → Int32) → (Nat → Int64) → Prop} {s0 : Int32}  (K1 : (s0 < 0) → XS mX10_send 95 [(0, .ref 49), (2, .int s0)] [.int (I 3172 0), .ref 49] I L Q) (K2 : (¬ s0 < 0) → XS mX10_send 91 [(0, .ref 49), (2, .int s0)] [.int (I 3172 0), .ref 49] I L Q) : XS mX10_send 81 [(0, .ref 49)] [.int s0] I L Q := by
  refine x_istore_n [(0, .ref 49), (2, .int s0)] dX10_send_81 rfl (Nat.le_of_ble_eq_true rfl) rfl ?_
  refine x_aload_n 0 dX10_send_82 rfl rfl ?_
  refine x_dup dX10_send_83 rfl ?_
  refine xs_geti 3172 dX10_send_84 fl_X10_209 sh_49 rfl rfl ?_
  refine x_iload_n 1 dX10_send_87 rfl rfl ?_
  exact x_if_lt 95 dX10_send_88 (by decide) (fun h => K1 h) (fun h => K2 h)
theorem bX10_send_91 {I : Nat → Nat → Int32} {L : Nat → Int64} {Q : Option Value → (Nat → Nat → Int32) → (Nat → Int64) → Prop} {v2 : Int32} {s1 : Int32}  (K : XS mX10_send 96 [(0, .ref 49), (2, .int v2)] [.int (1 : Int32), .int s1, .ref 49] I L Q) : XS mX10_send 91 [(0, .ref 49), (2, .int v2)] [.int s1, .ref 49] I L Q := by
  refine x_iconst (v := (1 : Int32)) dX10_send_91 (by decide) ?_
  exact x_goto 96 dX10_send_92 (by decide) (K)
theorem bX10_send_95 {I : Nat → Nat → Int32} {L : Nat → Int64} {Q : Option Value → (Nat → Nat → Int32) → (Nat → Int64) → Prop} {v2 : Int32} {s1 : Int32}  (K : XS mX10_send 96 [(0, .ref 49), (2, .int v2)] [.int (0 : Int32), .int s1, .ref 49] I L Q) : XS mX10_send 95 [(0, .ref 49), (2, .int v2)] [.int s1, .ref 49] I L Q := by
  refine x_iconst (v := (0 : Int32)) dX10_send_95 (by decide) ?_
  exact K
theorem bX10_send_96 {I : Nat → Nat → Int32} {L : Nat → Int64} {Q : Option Value → (Nat → Nat → Int32) → (Nat → Int64) → Prop} {v2 : Int32} {s1 : Int32} {s2 : Int32}  (K1 : (0 ≤ v2) → XS mX10_send 113 [(2, .int v2)] [.int ((x_up I 3172 0 (s1 + s2)) 3174 0), .ref 49] (x_up I 3172 0 (s1 + s2)) L Q) (K2 : (¬ 0 ≤ v2) → XS mX10_send 109 [(2, .int v2)] [.int ((x_up I 3172 0 (s1 + s2)) 3174 0), .ref 49] (x_up I 3172 0 (s1 + s2)) L Q) : XS mX10_send 96 [(0, .ref 49), (2, .int v2)] [.int s2, .int s1, .ref 49] I L Q := by
  refine x_iadd dX10_send_96 ?_
  refine xs_puti 3172 dX10_send_97 fl_X10_209 sh_49 rfl rfl rfl ?_
  refine x_aload_n 0 dX10_send_100 rfl rfl ?_
  refine x_dup dX10_send_101 rfl ?_
  refine xs_geti 3174 dX10_send_102 fl_X10_215 sh_49 rfl rfl ?_
  refine x_iload_n 1 dX10_send_105 rfl rfl ?_
  exact x_if_ge 113 dX10_send_106 (by decide) (fun h => x_sub [1] rfl (K1 h)) (fun h => x_sub [1] rfl (K2 h))
theorem bX10_send_109 {I : Nat → Nat → Int32} {L : Nat → Int64} {Q : Option Value → (Nat → Nat → Int32) → (Nat → Int64) → Prop} {v2 : Int32} {s1 : Int32}  (K : XS mX10_send 114 [(2, .int v2)] [.int (1 : Int32), .int s1, .ref 49] I L Q) : XS mX10_send 109 [(2, .int v2)] [.int s1, .ref 49] I L Q := by
  refine x_iconst (v := (1 : Int32)) dX10_send_109 (by decide) ?_
  exact x_goto 114 dX10_send_110 (by decide) (K)
theorem bX10_send_113 {I : Nat → Nat → Int32} {L : Nat → Int64} {Q : Option Value → (Nat → Nat → Int32) → (Nat → Int64) → Prop} {v2 : Int32} {s1 : Int32}  (K : XS mX10_send 114 [(2, .int v2)] [.int (0 : Int32), .int s1, .ref 49] I L Q) : XS mX10_send 113 [(2, .int v2)] [.int s1, .ref 49] I L Q := by
  refine x_iconst (v := (0 : Int32)) dX10_send_113 (by decide) ?_
  exact K
theorem bX10_send_114 {I : Nat → Nat → Int32} {L : Nat → Int64} {Q : Option Value → (Nat → Nat → Int32) → (Nat → Int64) → Prop} {v2 : Int32} {s1 : Int32} {s2 : Int32}  (K : Q (some (.int v2)) (x_up I 3174 0 (s1 + s2)) L) : XS mX10_send 114 [(2, .int v2)] [.int s2, .int s1, .ref 49] I L Q := by
  refine x_iadd dX10_send_114 ?_
  refine xs_puti 3174 dX10_send_115 fl_X10_215 sh_49 rfl rfl rfl ?_
  refine x_iload_n 0 dX10_send_118 rfl rfl ?_
  exact xs_iret dX10_send_119 rfl rfl K
theorem bX10_way_0 {I : Nat → Nat → Int32} {L : Nat → Int64} {Q : Option Value → (Nat → Nat → Int32) → (Nat → Int64) → Prop} {v1 : Int32}  (K1 : ((-1 : Int32) ≤ v1) → XS mX10_way 8 [(0, .ref 49), (1, .int v1)] [] I L Q) (K2 : (¬ (-1 : Int32) ≤ v1) → XS mX10_way 5 [] [] I L Q) : XS mX10_way 0 [(0, .ref 49), (1, .int v1)] [] I L Q := by
  refine x_iload_n 1 dX10_way_0 rfl rfl ?_
  refine x_iconst (v := (-1 : Int32)) dX10_way_1 (by decide) ?_
  exact x_icmp_ge 8 dX10_way_2 (by decide) (fun h => K1 h) (fun h => x_sub [] rfl (K2 h))
theorem bX10_way_5 {I : Nat → Nat → Int32} {L : Nat → Int64} {Q : Option Value → (Nat → Nat → Int32) → (Nat → Int64) → Prop}   (K : Q (some (.int (-3 : Int32))) I L) : XS mX10_way 5 [] [] I L Q := by
  refine x_bipush (v := (-3 : Int32)) dX10_way_5 (by decide) ?_
  exact xs_iret dX10_way_7 rfl rfl K
theorem bX10_way_8 {I : Nat → Nat → Int32} {L : Nat → Int64} {Q : Option Value → (Nat → Nat → Int32) → (Nat → Int64) → Prop} {v1 : Int32}  (K1 : (¬ v1 = (-1 : Int32)) → XS mX10_way 20 [(0, .ref 49), (1, .int v1)] [] I L Q) (K2 : (v1 = (-1 : Int32)) → XS mX10_way 13 [(0, .ref 49)] [] I L Q) : XS mX10_way 8 [(0, .ref 49), (1, .int v1)] [] I L Q := by
  refine x_iload_n 1 dX10_way_8 rfl rfl ?_
  refine x_iconst (v := (-1 : Int32)) dX10_way_9 (by decide) ?_
  exact x_icmp_ne 20 dX10_way_10 (by decide) (fun h => K1 h) (fun h => x_sub [0] rfl (K2 h))
theorem bX10_way_13 {I : Nat → Nat → Int32} {L : Nat → Int64} {Q : Option Value → (Nat → Nat → Int32) → (Nat → Int64) → Prop}   (K : XS mX10_way 38 [] [.int (I 3176 0)] I L Q) : XS mX10_way 13 [(0, .ref 49)] [] I L Q := by
  refine x_aload_n 0 dX10_way_13 rfl rfl ?_
  refine xs_geti 3176 dX10_way_14 fl_X10_74 sh_49 rfl rfl ?_
  exact x_goto 38 dX10_way_17 (by decide) (x_sub [] rfl (K))
theorem bX10_way_20 {I : Nat → Nat → Int32} {L : Nat → Int64} {Q : Option Value → (Nat → Nat → Int32) → (Nat → Int64) → Prop} {v1 : Int32}  (K1 : ((I 3176 0) < v1) → XS mX10_way 37 [] [] I L Q) (K2 : (¬ (I 3176 0) < v1) → XS mX10_way 28 [(0, .ref 49), (1, .int v1)] [] I L Q) : XS mX10_way 20 [(0, .ref 49), (1, .int v1)] [] I L Q := by
  refine x_iload_n 1 dX10_way_20 rfl rfl ?_
  refine x_aload_n 0 dX10_way_21 rfl rfl ?_
  refine xs_geti 3176 dX10_way_22 fl_X10_74 sh_49 rfl rfl ?_
  exact x_icmp_gt 37 dX10_way_25 (by decide) (fun h => x_sub [] rfl (K1 h)) (fun h => K2 h)
theorem bX10_way_28 {I : Nat → Nat → Int32} {L : Nat → Int64} {Q : Option Value → (Nat → Nat → Int32) → (Nat → Int64) → Prop} {v1 : Int32} (hb1 : vp_in v1 21) (K : XS mX10_way 38 [] [.int (I 4480 (v1.toNatClampNeg))] I L Q) : XS mX10_way 28 [(0, .ref 49), (1, .int v1)] [] I L Q := by
  refine x_aload_n 0 dX10_way_28 rfl rfl ?_
  refine xs_getr dX10_way_29 fl_X10_77 sh_49 rfl rf_3177 ?_
  refine x_iload_n 1 dX10_way_32 rfl rfl ?_
  refine xs_iald 4480 (v1.toNatClampNeg) dX10_way_33 sh_70 rfl rfl hb1 ?_
  exact x_goto 38 dX10_way_34 (by decide) (x_sub [] rfl (K))
theorem bX10_way_37 {I : Nat → Nat → Int32} {L : Nat → Int64} {Q : Option Value → (Nat → Nat → Int32) → (Nat → Int64) → Prop}   (K : XS mX10_way 38 [] [.int (-1 : Int32)] I L Q) : XS mX10_way 37 [] [] I L Q := by
  refine x_iconst (v := (-1 : Int32)) dX10_way_37 (by decide) ?_
  exact K
theorem bX10_way_38 {I : Nat → Nat → Int32} {L : Nat → Int64} {Q : Option Value → (Nat → Nat → Int32) → (Nat → Int64) → Prop} {s0 : Int32}  (K : Q (some (.int s0)) I L) : XS mX10_way 38 [] [.int s0] I L Q := by
  exact xs_iret dX10_way_38 rfl rfl K
theorem bX10_count_0 {I : Nat → Nat → Int32} {L : Nat → Int64} {Q : Option Value → (Nat → Nat → Int32) → (Nat → Int64) → Prop} {v1 : Int32}  (Kd : (v1.toInt < 0 ∨ 13 < v1.toInt) → XS mX10_count 151 [] [] I L Q) (K0 : (v1 = 0) → XS mX10_count 72 [(0, .ref 49)] [] I L Q) (K1 : (v1 = 1) → XS mX10_count 77 [(0, .ref 49)] [] I L Q) (K2 : (v1 = 2) → XS mX10_count 82 [(0, .ref 49)] [] I L Q) (K3 : (v1 = 3) → XS mX10_count 93 [(0, .ref 49)] [] I L Q) (K4 : (v1 = 4) → XS mX10_count 101 [(0, .ref 49)] [] I L Q) (K5 : (v1 = 5) → XS mX10_count 106 [(0, .ref 49)] [] I L Q) (K6 : (v1 = 6) → XS mX10_count 111 [(0, .ref 49)] [] I L Q) (K7 : (v1 = 7) → XS mX10_count 116 [(0, .ref 49)] [] I L Q) (K8 : (v1 = 8) → XS mX10_count 121 [(0, .ref 49)] [] I L Q) (K9 : (v1 = 9) → XS mX10_count 126 [(0, .ref 49)] [] I L Q) (K10 : (v1 = 10) → XS mX10_count 131 [(0, .ref 49)] [] I L Q) (K11 : (v1 = 11) → XS mX10_count 136 [(0, .ref 49)] [] I L Q) (K12 : (v1 = 12) → XS mX10_count 141 [(0, .ref 49)] [] I L Q) (K13 : (v1 = 13) → XS mX10_count 146 [(0, .ref 49)] [] I L Q) : XS mX10_count 0 [(0, .ref 49), (1, .int v1)] [] I L Q := by
  refine x_iload_n 1 dX10_count_0 rfl rfl ?_
  by_cases g1 : v1.toInt < 0
  · exact x_swOut 151 dX10_count_1 (Or.inl g1) (by decide) (x_sub [] rfl (Kd (Or.inl g1)))
  by_cases g2 : 13 < v1.toInt
  · exact x_swOut 151 dX10_count_1 (Or.inr g2) (by decide) (x_sub [] rfl (Kd (Or.inr g2)))
  obtain ⟨k, hk, e⟩ := x_swcase (x := v1) 0 13 g1 (by omega)
  rcases (show k = 0 ∨ k = 1 ∨ k = 2 ∨ k = 3 ∨ k = 4 ∨ k = 5 ∨ k = 6 ∨ k = 7 ∨ k = 8 ∨ k = 9 ∨ k = 10 ∨ k = 11 ∨ k = 12 ∨ k = 13 by omega) with rfl | rfl | rfl | rfl | rfl | rfl | rfl | rfl | rfl | rfl | rfl | rfl | rfl | rfl
  · exact x_swIn 72 dX10_count_1 g1 g2 (by rw [e]; rfl) (by decide) (x_sub [0] rfl (K0 (x_toI 0 e rfl)))
  · exact x_swIn 77 dX10_count_1 g1 g2 (by rw [e]; rfl) (by decide) (x_sub [0] rfl (K1 (x_toI 1 e rfl)))
  · exact x_swIn 82 dX10_count_1 g1 g2 (by rw [e]; rfl) (by decide) (x_sub [0] rfl (K2 (x_toI 2 e rfl)))
  · exact x_swIn 93 dX10_count_1 g1 g2 (by rw [e]; rfl) (by decide) (x_sub [0] rfl (K3 (x_toI 3 e rfl)))
  · exact x_swIn 101 dX10_count_1 g1 g2 (by rw [e]; rfl) (by decide) (x_sub [0] rfl (K4 (x_toI 4 e rfl)))
  · exact x_swIn 106 dX10_count_1 g1 g2 (by rw [e]; rfl) (by decide) (x_sub [0] rfl (K5 (x_toI 5 e rfl)))
  · exact x_swIn 111 dX10_count_1 g1 g2 (by rw [e]; rfl) (by decide) (x_sub [0] rfl (K6 (x_toI 6 e rfl)))
  · exact x_swIn 116 dX10_count_1 g1 g2 (by rw [e]; rfl) (by decide) (x_sub [0] rfl (K7 (x_toI 7 e rfl)))
  · exact x_swIn 121 dX10_count_1 g1 g2 (by rw [e]; rfl) (by decide) (x_sub [0] rfl (K8 (x_toI 8 e rfl)))
  · exact x_swIn 126 dX10_count_1 g1 g2 (by rw [e]; rfl) (by decide) (x_sub [0] rfl (K9 (x_toI 9 e rfl)))
  · exact x_swIn 131 dX10_count_1 g1 g2 (by rw [e]; rfl) (by decide) (x_sub [0] rfl (K10 (x_toI 10 e rfl)))
  · exact x_swIn 136 dX10_count_1 g1 g2 (by rw [e]; rfl) (by decide) (x_sub [0] rfl (K11 (x_toI 11 e rfl)))
  · exact x_swIn 141 dX10_count_1 g1 g2 (by rw [e]; rfl) (by decide) (x_sub [0] rfl (K12 (x_toI 12 e rfl)))
  · exact x_swIn 146 dX10_count_1 g1 g2 (by rw [e]; rfl) (by decide) (x_sub [0] rfl (K13 (x_toI 13 e rfl)))
theorem bX10_count_72 {I : Nat → Nat → Int32} {L : Nat → Int64} {Q : Option Value → (Nat → Nat → Int32) → (Nat → Int64) → Prop}   (K : Q (some (.int (I 3136 0))) I L) : XS mX10_count 72 [(0, .ref 49)] [] I L Q := by
  refine x_aload_n 0 dX10_count_72 rfl rfl ?_
  refine xs_geti 3136 dX10_count_73 fl_X10_7 sh_49 rfl rfl ?_
  exact xs_iret dX10_count_76 rfl rfl K
theorem bX10_count_77 {I : Nat → Nat → Int32} {L : Nat → Int64} {Q : Option Value → (Nat → Nat → Int32) → (Nat → Int64) → Prop}   (K : Q (some (.int (I 3137 0))) I L) : XS mX10_count 77 [(0, .ref 49)] [] I L Q := by
  refine x_aload_n 0 dX10_count_77 rfl rfl ?_
  refine xs_geti 3137 dX10_count_78 fl_X10_90 sh_49 rfl rfl ?_
  exact xs_iret dX10_count_81 rfl rfl K
theorem bX10_count_82 {I : Nat → Nat → Int32} {L : Nat → Int64} {Q : Option Value → (Nat → Nat → Int32) → (Nat → Int64) → Prop}   (K : XS mX10_ones 0 [(0, .int (I 3392 28))] [] I L (fun r I' L' => XS mX10_count 92 [] (r.toList ++ []) I' L' Q)) : XS mX10_count 82 [(0, .ref 49)] [] I L Q := by
  refine x_aload_n 0 dX10_count_82 rfl rfl ?_
  refine xs_getr dX10_count_83 fl_X10_23 sh_49 rfl rf_3141 ?_
  refine x_bipush (v := (28 : Int32)) dX10_count_86 (by decide) ?_
  refine xs_iald 3392 (28) dX10_count_88 sh_53 rfl (by decide) (x_vpin (by decide)) ?_
  refine x_sub [] rfl ?_
  exact xs_callS mX10_ones [.int (I 3392 28)] [] 1 _ rfl dX10_count_89 ml_X10_227 qX10_ones rfl ⟨Nat.le_of_ble_eq_true rfl, Nat.le_of_ble_eq_true rfl⟩ ⟨rfl, rfl⟩ (Nat.le_of_ble_eq_true rfl) (Nat.le_of_ble_eq_true rfl) (K)
theorem bX10_count_92 {I : Nat → Nat → Int32} {L : Nat → Int64} {Q : Option Value → (Nat → Nat → Int32) → (Nat → Int64) → Prop} {s0 : Int32}  (K : Q (some (.int s0)) I L) : XS mX10_count 92 [] [.int s0] I L Q := by
  exact xs_iret dX10_count_92 rfl rfl K
theorem bX10_count_93 {I : Nat → Nat → Int32} {L : Nat → Int64} {Q : Option Value → (Nat → Nat → Int32) → (Nat → Int64) → Prop}   (K : XS mX10_behind 0 [(0, .ref 49)] [] I L (fun r I' L' => XS mX10_count 97 [] (r.toList ++ []) I' L' Q)) : XS mX10_count 93 [(0, .ref 49)] [] I L Q := by
  refine x_aload_n 0 dX10_count_93 rfl rfl ?_
  refine x_sub [] rfl ?_
  exact xs_callV mX10_behind [] [] 49 10 0 _ rfl dX10_count_94 ml_X10_249 qX10_behind rfl ⟨Nat.le_of_ble_eq_true rfl, Nat.le_of_ble_eq_true rfl⟩ ⟨rfl, rfl⟩ (Nat.le_of_ble_eq_true rfl) sh_49 (by decide) rfl (Nat.le_of_ble_eq_true rfl) (K)
theorem bX10_count_97 {I : Nat → Nat → Int32} {L : Nat → Int64} {Q : Option Value → (Nat → Nat → Int32) → (Nat → Int64) → Prop} {s0 : Int32}  (K : XS mX10_ones 0 [(0, .int s0)] [] I L (fun r I' L' => XS mX10_count 100 [] (r.toList ++ []) I' L' Q)) : XS mX10_count 97 [] [.int s0] I L Q := by
  exact xs_callS mX10_ones [.int s0] [] 1 _ rfl dX10_count_97 ml_X10_227 qX10_ones rfl ⟨Nat.le_of_ble_eq_true rfl, Nat.le_of_ble_eq_true rfl⟩ ⟨rfl, rfl⟩ (Nat.le_of_ble_eq_true rfl) (Nat.le_of_ble_eq_true rfl) (K)
theorem bX10_count_100 {I : Nat → Nat → Int32} {L : Nat → Int64} {Q : Option Value → (Nat → Nat → Int32) → (Nat → Int64) → Prop} {s0 : Int32}  (K : Q (some (.int s0)) I L) : XS mX10_count 100 [] [.int s0] I L Q := by
  exact xs_iret dX10_count_100 rfl rfl K
theorem bX10_count_101 {I : Nat → Nat → Int32} {L : Nat → Int64} {Q : Option Value → (Nat → Nat → Int32) → (Nat → Int64) → Prop}   (K : Q (some (.int (I 3144 0))) I L) : XS mX10_count 101 [(0, .ref 49)] [] I L Q := by
  refine x_aload_n 0 dX10_count_101 rfl rfl ?_
  refine xs_geti 3144 dX10_count_102 fl_X10_174 sh_49 rfl rfl ?_
  exact xs_iret dX10_count_105 rfl rfl K
theorem bX10_count_106 {I : Nat → Nat → Int32} {L : Nat → Int64} {Q : Option Value → (Nat → Nat → Int32) → (Nat → Int64) → Prop}   (K : Q (some (.int (I 3147 0))) I L) : XS mX10_count 106 [(0, .ref 49)] [] I L Q := by
  refine x_aload_n 0 dX10_count_106 rfl rfl ?_
  refine xs_geti 3147 dX10_count_107 fl_X10_177 sh_49 rfl rfl ?_
  exact xs_iret dX10_count_110 rfl rfl K
theorem bX10_count_111 {I : Nat → Nat → Int32} {L : Nat → Int64} {Q : Option Value → (Nat → Nat → Int32) → (Nat → Int64) → Prop}   (K : Q (some (.int (I 3149 0))) I L) : XS mX10_count 111 [(0, .ref 49)] [] I L Q := by
  refine x_aload_n 0 dX10_count_111 rfl rfl ?_
  refine xs_geti 3149 dX10_count_112 fl_X10_180 sh_49 rfl rfl ?_
  exact xs_iret dX10_count_115 rfl rfl K
theorem bX10_count_116 {I : Nat → Nat → Int32} {L : Nat → Int64} {Q : Option Value → (Nat → Nat → Int32) → (Nat → Int64) → Prop}   (K : Q (some (.int (I 3171 0))) I L) : XS mX10_count 116 [(0, .ref 49)] [] I L Q := by
  refine x_aload_n 0 dX10_count_116 rfl rfl ?_
  refine xs_geti 3171 dX10_count_117 fl_X10_206 sh_49 rfl rfl ?_
  exact xs_iret dX10_count_120 rfl rfl K
theorem bX10_count_121 {I : Nat → Nat → Int32} {L : Nat → Int64} {Q : Option Value → (Nat → Nat → Int32) → (Nat → Int64) → Prop}   (K : Q (some (.int (I 3172 0))) I L) : XS mX10_count 121 [(0, .ref 49)] [] I L Q := by
  refine x_aload_n 0 dX10_count_121 rfl rfl ?_
  refine xs_geti 3172 dX10_count_122 fl_X10_209 sh_49 rfl rfl ?_
  exact xs_iret dX10_count_125 rfl rfl K
theorem bX10_count_126 {I : Nat → Nat → Int32} {L : Nat → Int64} {Q : Option Value → (Nat → Nat → Int32) → (Nat → Int64) → Prop}   (K : Q (some (.int (I 3173 0))) I L) : XS mX10_count 126 [(0, .ref 49)] [] I L Q := by
  refine x_aload_n 0 dX10_count_126 rfl rfl ?_
  refine xs_geti 3173 dX10_count_127 fl_X10_212 sh_49 rfl rfl ?_
  exact xs_iret dX10_count_130 rfl rfl K
theorem bX10_count_131 {I : Nat → Nat → Int32} {L : Nat → Int64} {Q : Option Value → (Nat → Nat → Int32) → (Nat → Int64) → Prop}   (K : Q (some (.int (I 3174 0))) I L) : XS mX10_count 131 [(0, .ref 49)] [] I L Q := by
  refine x_aload_n 0 dX10_count_131 rfl rfl ?_
  refine xs_geti 3174 dX10_count_132 fl_X10_215 sh_49 rfl rfl ?_
  exact xs_iret dX10_count_135 rfl rfl K
theorem bX10_count_136 {I : Nat → Nat → Int32} {L : Nat → Int64} {Q : Option Value → (Nat → Nat → Int32) → (Nat → Int64) → Prop}   (K : Q (some (.int (I 3143 0))) I L) : XS mX10_count 136 [(0, .ref 49)] [] I L Q := by
  refine x_aload_n 0 dX10_count_136 rfl rfl ?_
  refine xs_geti 3143 dX10_count_137 fl_X10_203 sh_49 rfl rfl ?_
  exact xs_iret dX10_count_140 rfl rfl K
theorem bX10_count_141 {I : Nat → Nat → Int32} {L : Nat → Int64} {Q : Option Value → (Nat → Nat → Int32) → (Nat → Int64) → Prop}   (K : Q (some (.int (I 3159 0))) I L) : XS mX10_count 141 [(0, .ref 49)] [] I L Q := by
  refine x_aload_n 0 dX10_count_141 rfl rfl ?_
  refine xs_geti 3159 dX10_count_142 fl_X10_134 sh_49 rfl rfl ?_
  exact xs_iret dX10_count_145 rfl rfl K
theorem bX10_count_146 {I : Nat → Nat → Int32} {L : Nat → Int64} {Q : Option Value → (Nat → Nat → Int32) → (Nat → Int64) → Prop}   (K : Q (some (.int (I 3175 0))) I L) : XS mX10_count 146 [(0, .ref 49)] [] I L Q := by
  refine x_aload_n 0 dX10_count_146 rfl rfl ?_
  refine xs_geti 3175 dX10_count_147 fl_X10_218 sh_49 rfl rfl ?_
  exact xs_iret dX10_count_150 rfl rfl K
theorem bX10_count_151 {I : Nat → Nat → Int32} {L : Nat → Int64} {Q : Option Value → (Nat → Nat → Int32) → (Nat → Int64) → Prop}   (K : Q (some (.int (-3 : Int32))) I L) : XS mX10_count 151 [] [] I L Q := by
  refine x_bipush (v := (-3 : Int32)) dX10_count_151 (by decide) ?_
  exact xs_iret dX10_count_153 rfl rfl K
