/-! ===== blocks ===== -/
theorem bJ6_bitCount_0f7a4_0 {I : Nat → Nat → Int32} {L : Nat → Int64} {Q : Option Value → (Nat → Nat → Int32) → (Nat → Int64) → Prop} {v0 : Int32}  (K : XS mJ6_bitCount_0f7a4 10 [(0, .int (v0 - ((v0.toUInt32 >>> ((1 : Int32).toUInt32 &&& Int32.toUInt32 31)).toInt32 &&& (1431655765 : Int32))))] [] I L Q) : XS mJ6_bitCount_0f7a4 0 [(0, .int v0)] [] I L Q := by
  refine x_iload_n 0 dJ6_bitCount_0f7a4_0 rfl rfl ?_
  refine x_iload_n 0 dJ6_bitCount_0f7a4_1 rfl rfl ?_
  refine x_iconst (v := (1 : Int32)) dJ6_bitCount_0f7a4_2 (by decide) ?_
  refine x_iushr dJ6_bitCount_0f7a4_3 ?_
  refine x_ldcw dJ6_bitCount_0f7a4_4 ct_J6_265 ?_
  refine x_iand dJ6_bitCount_0f7a4_7 ?_
  refine x_isub dJ6_bitCount_0f7a4_8 ?_
  refine x_istore_n [(0, .int (v0 - ((v0.toUInt32 >>> ((1 : Int32).toUInt32 &&& Int32.toUInt32 31)).toInt32 &&& (1431655765 : Int32))))] dJ6_bitCount_0f7a4_9 rfl (Nat.le_of_ble_eq_true rfl) rfl ?_
  exact K
theorem bJ6_bitCount_0f7a4_10 {I : Nat → Nat → Int32} {L : Nat → Int64} {Q : Option Value → (Nat → Nat → Int32) → (Nat → Int64) → Prop} {v0 : Int32}  (K : XS mJ6_bitCount_0f7a4 24 [(0, .int ((v0 &&& (858993459 : Int32)) + ((v0.toUInt32 >>> ((2 : Int32).toUInt32 &&& Int32.toUInt32 31)).toInt32 &&& (858993459 : Int32))))] [] I L Q) : XS mJ6_bitCount_0f7a4 10 [(0, .int v0)] [] I L Q := by
  refine x_iload_n 0 dJ6_bitCount_0f7a4_10 rfl rfl ?_
  refine x_ldcw dJ6_bitCount_0f7a4_11 ct_J6_266 ?_
  refine x_iand dJ6_bitCount_0f7a4_14 ?_
  refine x_iload_n 0 dJ6_bitCount_0f7a4_15 rfl rfl ?_
  refine x_iconst (v := (2 : Int32)) dJ6_bitCount_0f7a4_16 (by decide) ?_
  refine x_iushr dJ6_bitCount_0f7a4_17 ?_
  refine x_ldcw dJ6_bitCount_0f7a4_18 ct_J6_266 ?_
  refine x_iand dJ6_bitCount_0f7a4_21 ?_
  refine x_iadd dJ6_bitCount_0f7a4_22 ?_
  refine x_istore_n [(0, .int ((v0 &&& (858993459 : Int32)) + ((v0.toUInt32 >>> ((2 : Int32).toUInt32 &&& Int32.toUInt32 31)).toInt32 &&& (858993459 : Int32))))] dJ6_bitCount_0f7a4_23 rfl (Nat.le_of_ble_eq_true rfl) rfl ?_
  exact K
theorem bJ6_bitCount_0f7a4_24 {I : Nat → Nat → Int32} {L : Nat → Int64} {Q : Option Value → (Nat → Nat → Int32) → (Nat → Int64) → Prop} {v0 : Int32}  (K : XS mJ6_bitCount_0f7a4 34 [(0, .int ((v0 + (v0.toUInt32 >>> ((4 : Int32).toUInt32 &&& Int32.toUInt32 31)).toInt32) &&& (252645135 : Int32)))] [] I L Q) : XS mJ6_bitCount_0f7a4 24 [(0, .int v0)] [] I L Q := by
  refine x_iload_n 0 dJ6_bitCount_0f7a4_24 rfl rfl ?_
  refine x_iload_n 0 dJ6_bitCount_0f7a4_25 rfl rfl ?_
  refine x_iconst (v := (4 : Int32)) dJ6_bitCount_0f7a4_26 (by decide) ?_
  refine x_iushr dJ6_bitCount_0f7a4_27 ?_
  refine x_iadd dJ6_bitCount_0f7a4_28 ?_
  refine x_ldcw dJ6_bitCount_0f7a4_29 ct_J6_267 ?_
  refine x_iand dJ6_bitCount_0f7a4_32 ?_
  refine x_istore_n [(0, .int ((v0 + (v0.toUInt32 >>> ((4 : Int32).toUInt32 &&& Int32.toUInt32 31)).toInt32) &&& (252645135 : Int32)))] dJ6_bitCount_0f7a4_33 rfl (Nat.le_of_ble_eq_true rfl) rfl ?_
  exact K
theorem bJ6_bitCount_0f7a4_34 {I : Nat → Nat → Int32} {L : Nat → Int64} {Q : Option Value → (Nat → Nat → Int32) → (Nat → Int64) → Prop} {v0 : Int32}  (K : XS mJ6_bitCount_0f7a4 41 [(0, .int (v0 + (v0.toUInt32 >>> ((8 : Int32).toUInt32 &&& Int32.toUInt32 31)).toInt32))] [] I L Q) : XS mJ6_bitCount_0f7a4 34 [(0, .int v0)] [] I L Q := by
  refine x_iload_n 0 dJ6_bitCount_0f7a4_34 rfl rfl ?_
  refine x_iload_n 0 dJ6_bitCount_0f7a4_35 rfl rfl ?_
  refine x_bipush (v := (8 : Int32)) dJ6_bitCount_0f7a4_36 (by decide) ?_
  refine x_iushr dJ6_bitCount_0f7a4_38 ?_
  refine x_iadd dJ6_bitCount_0f7a4_39 ?_
  refine x_istore_n [(0, .int (v0 + (v0.toUInt32 >>> ((8 : Int32).toUInt32 &&& Int32.toUInt32 31)).toInt32))] dJ6_bitCount_0f7a4_40 rfl (Nat.le_of_ble_eq_true rfl) rfl ?_
  exact K
theorem bJ6_bitCount_0f7a4_41 {I : Nat → Nat → Int32} {L : Nat → Int64} {Q : Option Value → (Nat → Nat → Int32) → (Nat → Int64) → Prop} {v0 : Int32}  (K : XS mJ6_bitCount_0f7a4 48 [(0, .int (v0 + (v0.toUInt32 >>> ((16 : Int32).toUInt32 &&& Int32.toUInt32 31)).toInt32))] [] I L Q) : XS mJ6_bitCount_0f7a4 41 [(0, .int v0)] [] I L Q := by
  refine x_iload_n 0 dJ6_bitCount_0f7a4_41 rfl rfl ?_
  refine x_iload_n 0 dJ6_bitCount_0f7a4_42 rfl rfl ?_
  refine x_bipush (v := (16 : Int32)) dJ6_bitCount_0f7a4_43 (by decide) ?_
  refine x_iushr dJ6_bitCount_0f7a4_45 ?_
  refine x_iadd dJ6_bitCount_0f7a4_46 ?_
  refine x_istore_n [(0, .int (v0 + (v0.toUInt32 >>> ((16 : Int32).toUInt32 &&& Int32.toUInt32 31)).toInt32))] dJ6_bitCount_0f7a4_47 rfl (Nat.le_of_ble_eq_true rfl) rfl ?_
  exact K
theorem bJ6_bitCount_0f7a4_48 {I : Nat → Nat → Int32} {L : Nat → Int64} {Q : Option Value → (Nat → Nat → Int32) → (Nat → Int64) → Prop} {v0 : Int32}  (K : Q (some (.int (v0 &&& (63 : Int32)))) I L) : XS mJ6_bitCount_0f7a4 48 [(0, .int v0)] [] I L Q := by
  refine x_iload_n 0 dJ6_bitCount_0f7a4_48 rfl rfl ?_
  refine x_bipush (v := (63 : Int32)) dJ6_bitCount_0f7a4_49 (by decide) ?_
  refine x_iand dJ6_bitCount_0f7a4_51 ?_
  exact xs_iret dJ6_bitCount_0f7a4_52 rfl rfl K
theorem bJ13_bitCount_95d88_0 {I : Nat → Nat → Int32} {L : Nat → Int64} {Q : Option Value → (Nat → Nat → Int32) → (Nat → Int64) → Prop} {v0 : Int64}  (K : XS mJ13_bitCount_95d88 10 [(0, .long (v0 - ((v0.toUInt64 >>> ((1 : Int32).toInt64.toUInt64 &&& Int64.toUInt64 63)).toInt64 &&& (6148914691236517205 : Int64))))] [] I L Q) : XS mJ13_bitCount_95d88 0 [(0, .long v0)] [] I L Q := by
  refine x_lload_n 0 dJ13_bitCount_95d88_0 rfl rfl ?_
  refine x_lload_n 0 dJ13_bitCount_95d88_1 rfl rfl ?_
  refine x_iconst (v := (1 : Int32)) dJ13_bitCount_95d88_2 (by decide) ?_
  refine x_lushr dJ13_bitCount_95d88_3 ?_
  refine x_ldc2 dJ13_bitCount_95d88_4 ct_J13_314 ?_
  refine x_land dJ13_bitCount_95d88_7 ?_
  refine x_lsub dJ13_bitCount_95d88_8 ?_
  refine x_lstore_n [(0, .long (v0 - ((v0.toUInt64 >>> ((1 : Int32).toInt64.toUInt64 &&& Int64.toUInt64 63)).toInt64 &&& (6148914691236517205 : Int64))))] dJ13_bitCount_95d88_9 rfl (Nat.le_of_ble_eq_true rfl) rfl ?_
  exact K
theorem bJ13_bitCount_95d88_10 {I : Nat → Nat → Int32} {L : Nat → Int64} {Q : Option Value → (Nat → Nat → Int32) → (Nat → Int64) → Prop} {v0 : Int64}  (K : XS mJ13_bitCount_95d88 24 [(0, .long ((v0 &&& (3689348814741910323 : Int64)) + ((v0.toUInt64 >>> ((2 : Int32).toInt64.toUInt64 &&& Int64.toUInt64 63)).toInt64 &&& (3689348814741910323 : Int64))))] [] I L Q) : XS mJ13_bitCount_95d88 10 [(0, .long v0)] [] I L Q := by
  refine x_lload_n 0 dJ13_bitCount_95d88_10 rfl rfl ?_
  refine x_ldc2 dJ13_bitCount_95d88_11 ct_J13_316 ?_
  refine x_land dJ13_bitCount_95d88_14 ?_
  refine x_lload_n 0 dJ13_bitCount_95d88_15 rfl rfl ?_
  refine x_iconst (v := (2 : Int32)) dJ13_bitCount_95d88_16 (by decide) ?_
  refine x_lushr dJ13_bitCount_95d88_17 ?_
  refine x_ldc2 dJ13_bitCount_95d88_18 ct_J13_316 ?_
  refine x_land dJ13_bitCount_95d88_21 ?_
  refine x_ladd dJ13_bitCount_95d88_22 ?_
  refine x_lstore_n [(0, .long ((v0 &&& (3689348814741910323 : Int64)) + ((v0.toUInt64 >>> ((2 : Int32).toInt64.toUInt64 &&& Int64.toUInt64 63)).toInt64 &&& (3689348814741910323 : Int64))))] dJ13_bitCount_95d88_23 rfl (Nat.le_of_ble_eq_true rfl) rfl ?_
  exact K
theorem bJ13_bitCount_95d88_24 {I : Nat → Nat → Int32} {L : Nat → Int64} {Q : Option Value → (Nat → Nat → Int32) → (Nat → Int64) → Prop} {v0 : Int64}  (K : XS mJ13_bitCount_95d88 34 [(0, .long ((v0 + (v0.toUInt64 >>> ((4 : Int32).toInt64.toUInt64 &&& Int64.toUInt64 63)).toInt64) &&& (1085102592571150095 : Int64)))] [] I L Q) : XS mJ13_bitCount_95d88 24 [(0, .long v0)] [] I L Q := by
  refine x_lload_n 0 dJ13_bitCount_95d88_24 rfl rfl ?_
  refine x_lload_n 0 dJ13_bitCount_95d88_25 rfl rfl ?_
  refine x_iconst (v := (4 : Int32)) dJ13_bitCount_95d88_26 (by decide) ?_
  refine x_lushr dJ13_bitCount_95d88_27 ?_
  refine x_ladd dJ13_bitCount_95d88_28 ?_
  refine x_ldc2 dJ13_bitCount_95d88_29 ct_J13_318 ?_
  refine x_land dJ13_bitCount_95d88_32 ?_
  refine x_lstore_n [(0, .long ((v0 + (v0.toUInt64 >>> ((4 : Int32).toInt64.toUInt64 &&& Int64.toUInt64 63)).toInt64) &&& (1085102592571150095 : Int64)))] dJ13_bitCount_95d88_33 rfl (Nat.le_of_ble_eq_true rfl) rfl ?_
  exact K
theorem bJ13_bitCount_95d88_34 {I : Nat → Nat → Int32} {L : Nat → Int64} {Q : Option Value → (Nat → Nat → Int32) → (Nat → Int64) → Prop} {v0 : Int64}  (K : XS mJ13_bitCount_95d88 41 [(0, .long (v0 + (v0.toUInt64 >>> ((8 : Int32).toInt64.toUInt64 &&& Int64.toUInt64 63)).toInt64))] [] I L Q) : XS mJ13_bitCount_95d88 34 [(0, .long v0)] [] I L Q := by
  refine x_lload_n 0 dJ13_bitCount_95d88_34 rfl rfl ?_
  refine x_lload_n 0 dJ13_bitCount_95d88_35 rfl rfl ?_
  refine x_bipush (v := (8 : Int32)) dJ13_bitCount_95d88_36 (by decide) ?_
  refine x_lushr dJ13_bitCount_95d88_38 ?_
  refine x_ladd dJ13_bitCount_95d88_39 ?_
  refine x_lstore_n [(0, .long (v0 + (v0.toUInt64 >>> ((8 : Int32).toInt64.toUInt64 &&& Int64.toUInt64 63)).toInt64))] dJ13_bitCount_95d88_40 rfl (Nat.le_of_ble_eq_true rfl) rfl ?_
  exact K
theorem bJ13_bitCount_95d88_41 {I : Nat → Nat → Int32} {L : Nat → Int64} {Q : Option Value → (Nat → Nat → Int32) → (Nat → Int64) → Prop} {v0 : Int64}  (K : XS mJ13_bitCount_95d88 48 [(0, .long (v0 + (v0.toUInt64 >>> ((16 : Int32).toInt64.toUInt64 &&& Int64.toUInt64 63)).toInt64))] [] I L Q) : XS mJ13_bitCount_95d88 41 [(0, .long v0)] [] I L Q := by
  refine x_lload_n 0 dJ13_bitCount_95d88_41 rfl rfl ?_
  refine x_lload_n 0 dJ13_bitCount_95d88_42 rfl rfl ?_
  refine x_bipush (v := (16 : Int32)) dJ13_bitCount_95d88_43 (by decide) ?_
  refine x_lushr dJ13_bitCount_95d88_45 ?_
  refine x_ladd dJ13_bitCount_95d88_46 ?_
  refine x_lstore_n [(0, .long (v0 + (v0.toUInt64 >>> ((16 : Int32).toInt64.toUInt64 &&& Int64.toUInt64 63)).toInt64))] dJ13_bitCount_95d88_47 rfl (Nat.le_of_ble_eq_true rfl) rfl ?_
  exact K
theorem bJ13_bitCount_95d88_48 {I : Nat → Nat → Int32} {L : Nat → Int64} {Q : Option Value → (Nat → Nat → Int32) → (Nat → Int64) → Prop} {v0 : Int64}  (K : XS mJ13_bitCount_95d88 55 [(0, .long (v0 + (v0.toUInt64 >>> ((32 : Int32).toInt64.toUInt64 &&& Int64.toUInt64 63)).toInt64))] [] I L Q) : XS mJ13_bitCount_95d88 48 [(0, .long v0)] [] I L Q := by
  refine x_lload_n 0 dJ13_bitCount_95d88_48 rfl rfl ?_
  refine x_lload_n 0 dJ13_bitCount_95d88_49 rfl rfl ?_
  refine x_bipush (v := (32 : Int32)) dJ13_bitCount_95d88_50 (by decide) ?_
  refine x_lushr dJ13_bitCount_95d88_52 ?_
  refine x_ladd dJ13_bitCount_95d88_53 ?_
  refine x_lstore_n [(0, .long (v0 + (v0.toUInt64 >>> ((32 : Int32).toInt64.toUInt64 &&& Int64.toUInt64 63)).toInt64))] dJ13_bitCount_95d88_54 rfl (Nat.le_of_ble_eq_true rfl) rfl ?_
  exact K
theorem bJ13_bitCount_95d88_55 {I : Nat → Nat → Int32} {L : Nat → Int64} {Q : Option Value → (Nat → Nat → Int32) → (Nat → Int64) → Prop} {v0 : Int64}  (K : Q (some (.int (v0.toInt32 &&& (127 : Int32)))) I L) : XS mJ13_bitCount_95d88 55 [(0, .long v0)] [] I L Q := by
  refine x_lload_n 0 dJ13_bitCount_95d88_55 rfl rfl ?_
  refine x_l2i dJ13_bitCount_95d88_56 ?_
  refine x_bipush (v := (127 : Int32)) dJ13_bitCount_95d88_57 (by decide) ?_
  refine x_iand dJ13_bitCount_95d88_59 ?_
  exact xs_iret dJ13_bitCount_95d88_60 rfl rfl K
theorem bJ0_length_8abf5_0 {I : Nat → Nat → Int32} {L : Nat → Int64} {Q : Option Value → (Nat → Nat → Int32) → (Nat → Int64) → Prop} {i : Nat} (hi : i < 2) (K : XS mJ0_coder_7d493 0 [(0, .ref (1000000 + i))] [] I L (fun r I' L' => XS mJ0_length_8abf5 9 [] (r.toList ++ [.int (Int32.ofNat (([5, 4] : List Nat).getD i 0))]) I' L' Q)) : XS mJ0_length_8abf5 0 [(0, .ref (1000000 + i))] [] I L Q := by
  refine x_aload_n 0 dJ0_length_8abf5_0 rfl rfl ?_
  refine x_strV i hi dJ0_length_8abf5_1 fl_J0_9 ?_
  refine x_strL i hi dJ0_length_8abf5_4 ?_
  refine x_aload_n 0 dJ0_length_8abf5_5 rfl rfl ?_
  refine x_sub [] rfl ?_
  exact xs_callT mJ0_coder_7d493 [] [.int (Int32.ofNat (([5, 4] : List Nat).getD i 0))] i 0 _ hi rfl dJ0_length_8abf5_6 ml_J0_335 qJ0_coder_7d493 rfl ⟨Nat.le_of_ble_eq_true rfl, Nat.le_of_ble_eq_true rfl⟩ ⟨rfl, rfl⟩ (Nat.le_of_ble_eq_true rfl) rfl (Nat.le_of_ble_eq_true rfl) (K)
theorem bJ0_length_8abf5_9 {I : Nat → Nat → Int32} {L : Nat → Int64} {Q : Option Value → (Nat → Nat → Int32) → (Nat → Int64) → Prop} {s0 : Int32} {s1 : Int32}  (K : Q (some (.int (s0 >>> (s1 &&& 31)))) I L) : XS mJ0_length_8abf5 9 [] [.int s1, .int s0] I L Q := by
  refine x_ishr dJ0_length_8abf5_9 ?_
  exact xs_iret dJ0_length_8abf5_10 rfl rfl K
theorem bJ0_charAt_5068e_0 {I : Nat → Nat → Int32} {L : Nat → Int64} {Q : Option Value → (Nat → Nat → Int32) → (Nat → Int64) → Prop} {i : Nat} {v1 : Int32} (hi : i < 2) (K : XS mJ0_isLatin1_aae02 0 [(0, .ref (1000000 + i))] [] I L (fun r I' L' => XS mJ0_charAt_5068e 4 [(0, .ref (1000000 + i)), (1, .int v1)] (r.toList ++ []) I' L' Q)) : XS mJ0_charAt_5068e 0 [(0, .ref (1000000 + i)), (1, .int v1)] [] I L Q := by
  refine x_aload_n 0 dJ0_charAt_5068e_0 rfl rfl ?_
  exact xs_callT mJ0_isLatin1_aae02 [] [] i 0 _ hi rfl dJ0_charAt_5068e_1 ml_J0_492 qJ0_isLatin1_aae02 rfl ⟨Nat.le_of_ble_eq_true rfl, Nat.le_of_ble_eq_true rfl⟩ ⟨rfl, rfl⟩ (Nat.le_of_ble_eq_true rfl) rfl (Nat.le_of_ble_eq_true rfl) (K)
theorem bJ0_charAt_5068e_4 {I : Nat → Nat → Int32} {L : Nat → Int64} {Q : Option Value → (Nat → Nat → Int32) → (Nat → Int64) → Prop} {i : Nat} {v1 : Int32} {s0 : Int32} (hi : i < 2) (K1 : (s0 = 0) → XS mJ0_charAt_5068e 16 [(0, .ref (1000000 + i)), (1, .int v1)] [] I L Q) (K2 : (¬ s0 = 0) → XS mJ0_charAt_5068e 7 [(0, .ref (1000000 + i)), (1, .int v1)] [] I L Q) : XS mJ0_charAt_5068e 4 [(0, .ref (1000000 + i)), (1, .int v1)] [.int s0] I L Q := by
  exact x_if_eq 16 dJ0_charAt_5068e_4 (by decide) (fun h => K1 h) (fun h => K2 h)
theorem bJ0_charAt_5068e_7 {I : Nat → Nat → Int32} {L : Nat → Int64} {Q : Option Value → (Nat → Nat → Int32) → (Nat → Int64) → Prop} {i : Nat} {v1 : Int32} (hi : i < 2) (K : XS mJ1_charAt_3b067 0 [(0, .ref (1000010 + i)), (1, .int v1)] [] I L (fun r I' L' => XS mJ0_charAt_5068e 15 [] (r.toList ++ []) I' L' Q)) : XS mJ0_charAt_5068e 7 [(0, .ref (1000000 + i)), (1, .int v1)] [] I L Q := by
  refine x_aload_n 0 dJ0_charAt_5068e_7 rfl rfl ?_
  refine x_strV i hi dJ0_charAt_5068e_8 fl_J0_9 ?_
  refine x_iload_n 1 dJ0_charAt_5068e_11 rfl rfl ?_
  refine x_sub [] rfl ?_
  exact xs_callS mJ1_charAt_3b067 [.ref (1000010 + i), .int v1] [] 2 _ rfl dJ0_charAt_5068e_12 ml_J0_495 qJ1_charAt_3b067 rfl ⟨Nat.le_of_ble_eq_true rfl, Nat.le_of_ble_eq_true rfl⟩ ⟨rfl, rfl⟩ (Nat.le_of_ble_eq_true rfl) (Nat.le_of_ble_eq_true rfl) (K)
theorem bJ0_charAt_5068e_15 {I : Nat → Nat → Int32} {L : Nat → Int64} {Q : Option Value → (Nat → Nat → Int32) → (Nat → Int64) → Prop} {s0 : Int32} (hn : narrow .char (.int s0) = .int s0) (K : Q (some (.int s0)) I L) : XS mJ0_charAt_5068e 15 [] [.int s0] I L Q := by
  exact xs_iret dJ0_charAt_5068e_15 rfl hn K
theorem bJ0_coder_7d493_0 {I : Nat → Nat → Int32} {L : Nat → Int64} {Q : Option Value → (Nat → Nat → Int32) → (Nat → Int64) → Prop} {i : Nat} (hi : i < 2) (K1 : ((1 : Int32) = 0) → XS mJ0_coder_7d493 13 [] [] I L Q) (K2 : (¬ (1 : Int32) = 0) → XS mJ0_coder_7d493 6 [(0, .ref (1000000 + i))] [] I L Q) : XS mJ0_coder_7d493 0 [(0, .ref (1000000 + i))] [] I L Q := by
  refine x_compact dJ0_coder_7d493_0 fl_J0_38 ?_
  exact x_if_eq 13 dJ0_coder_7d493_3 (by decide) (fun h => x_sub [] rfl (K1 h)) (fun h => K2 h)
theorem bJ0_coder_7d493_6 {I : Nat → Nat → Int32} {L : Nat → Int64} {Q : Option Value → (Nat → Nat → Int32) → (Nat → Int64) → Prop} {i : Nat} (hi : i < 2) (K : XS mJ0_coder_7d493 14 [] [.int (0 : Int32)] I L Q) : XS mJ0_coder_7d493 6 [(0, .ref (1000000 + i))] [] I L Q := by
  refine x_aload_n 0 dJ0_coder_7d493_6 rfl rfl ?_
  refine x_strC i hi dJ0_coder_7d493_7 fl_J0_15 ?_
  exact x_goto 14 dJ0_coder_7d493_10 (by decide) (x_sub [] rfl (K))
theorem bJ0_coder_7d493_13 {I : Nat → Nat → Int32} {L : Nat → Int64} {Q : Option Value → (Nat → Nat → Int32) → (Nat → Int64) → Prop}   (K : XS mJ0_coder_7d493 14 [] [.int (1 : Int32)] I L Q) : XS mJ0_coder_7d493 13 [] [] I L Q := by
  refine x_iconst (v := (1 : Int32)) dJ0_coder_7d493_13 (by decide) ?_
  exact K
theorem bJ0_coder_7d493_14 {I : Nat → Nat → Int32} {L : Nat → Int64} {Q : Option Value → (Nat → Nat → Int32) → (Nat → Int64) → Prop} {s0 : Int32} (hn : narrow .byte (.int s0) = .int s0) (K : Q (some (.int s0)) I L) : XS mJ0_coder_7d493 14 [] [.int s0] I L Q := by
  exact xs_iret dJ0_coder_7d493_14 rfl hn K
theorem bJ0_isLatin1_aae02_0 {I : Nat → Nat → Int32} {L : Nat → Int64} {Q : Option Value → (Nat → Nat → Int32) → (Nat → Int64) → Prop} {i : Nat} (hi : i < 2) (K1 : ((1 : Int32) = 0) → XS mJ0_isLatin1_aae02 17 [] [] I L Q) (K2 : (¬ (1 : Int32) = 0) → XS mJ0_isLatin1_aae02 6 [(0, .ref (1000000 + i))] [] I L Q) : XS mJ0_isLatin1_aae02 0 [(0, .ref (1000000 + i))] [] I L Q := by
  refine x_compact dJ0_isLatin1_aae02_0 fl_J0_38 ?_
  exact x_if_eq 17 dJ0_isLatin1_aae02_3 (by decide) (fun h => x_sub [] rfl (K1 h)) (fun h => K2 h)
theorem bJ0_isLatin1_aae02_6 {I : Nat → Nat → Int32} {L : Nat → Int64} {Q : Option Value → (Nat → Nat → Int32) → (Nat → Int64) → Prop} {i : Nat} (hi : i < 2) (K1 : (¬ (0 : Int32) = 0) → XS mJ0_isLatin1_aae02 17 [] [] I L Q) (K2 : ((0 : Int32) = 0) → XS mJ0_isLatin1_aae02 13 [] [] I L Q) : XS mJ0_isLatin1_aae02 6 [(0, .ref (1000000 + i))] [] I L Q := by
  refine x_aload_n 0 dJ0_isLatin1_aae02_6 rfl rfl ?_
  refine x_strC i hi dJ0_isLatin1_aae02_7 fl_J0_15 ?_
  exact x_if_ne 17 dJ0_isLatin1_aae02_10 (by decide) (fun h => x_sub [] rfl (K1 h)) (fun h => x_sub [] rfl (K2 h))
theorem bJ0_isLatin1_aae02_13 {I : Nat → Nat → Int32} {L : Nat → Int64} {Q : Option Value → (Nat → Nat → Int32) → (Nat → Int64) → Prop}   (K : XS mJ0_isLatin1_aae02 18 [] [.int (1 : Int32)] I L Q) : XS mJ0_isLatin1_aae02 13 [] [] I L Q := by
  refine x_iconst (v := (1 : Int32)) dJ0_isLatin1_aae02_13 (by decide) ?_
  exact x_goto 18 dJ0_isLatin1_aae02_14 (by decide) (K)
theorem bJ0_isLatin1_aae02_17 {I : Nat → Nat → Int32} {L : Nat → Int64} {Q : Option Value → (Nat → Nat → Int32) → (Nat → Int64) → Prop}   (K : XS mJ0_isLatin1_aae02 18 [] [.int (0 : Int32)] I L Q) : XS mJ0_isLatin1_aae02 17 [] [] I L Q := by
  refine x_iconst (v := (0 : Int32)) dJ0_isLatin1_aae02_17 (by decide) ?_
  exact K
theorem bJ0_isLatin1_aae02_18 {I : Nat → Nat → Int32} {L : Nat → Int64} {Q : Option Value → (Nat → Nat → Int32) → (Nat → Int64) → Prop} {s0 : Int32} (hz1 : s0 = 0 ∨ s0 = 1) (K : Q (some (.int s0)) I L) : XS mJ0_isLatin1_aae02 18 [] [.int s0] I L Q := by
  exact xs_iret dJ0_isLatin1_aae02_18 rfl (x_nar _ hz1) K
theorem bJ0_checkIndex_df160_0 {I : Nat → Nat → Int32} {L : Nat → Int64} {Q : Option Value → (Nat → Nat → Int32) → (Nat → Int64) → Prop} {v0 : Int32} {v1 : Int32}  (K : ∀ v2 : Value, XS mJ3_checkIndex_8e157 0 [(0, .int v0), (1, .int v1), (2, v2)] [] I L (fun r I' L' => XS mJ0_checkIndex_df160 8 [] (r.toList ++ []) I' L' Q)) : XS mJ0_checkIndex_df160 0 [(0, .int v0), (1, .int v1)] [] I L Q := by
  refine x_iload_n 0 dJ0_checkIndex_df160_0 rfl rfl ?_
  refine x_iload_n 1 dJ0_checkIndex_df160_1 rfl rfl ?_
  refine x_formatter dJ0_checkIndex_df160_2 fl_J0_1053 (fun v2 hv => ?_)
  refine x_sub [] rfl ?_
  rcases hv with rfl | rfl
  · exact xs_callS mJ3_checkIndex_8e157 [.int v0, .int v1, .null] [] 3 _ rfl dJ0_checkIndex_df160_5 ml_J0_1059 qJ3_checkIndex_8e157 rfl ⟨Nat.le_of_ble_eq_true rfl, Nat.le_of_ble_eq_true rfl⟩ ⟨rfl, rfl⟩ (Nat.le_of_ble_eq_true rfl) (Nat.le_of_ble_eq_true rfl) (K (.null))
  · exact xs_callS mJ3_checkIndex_8e157 [.int v0, .int v1, .ref 1000030] [] 3 _ rfl dJ0_checkIndex_df160_5 ml_J0_1059 qJ3_checkIndex_8e157 rfl ⟨Nat.le_of_ble_eq_true rfl, Nat.le_of_ble_eq_true rfl⟩ ⟨rfl, rfl⟩ (Nat.le_of_ble_eq_true rfl) (Nat.le_of_ble_eq_true rfl) (K (.ref 1000030))
theorem bJ0_checkIndex_df160_8 {I : Nat → Nat → Int32} {L : Nat → Int64} {Q : Option Value → (Nat → Nat → Int32) → (Nat → Int64) → Prop} {s0 : Int32}  (K : Q none I L) : XS mJ0_checkIndex_df160 8 [] [.int s0] I L Q := by
  refine x_pop dJ0_checkIndex_df160_8 rfl ?_
  exact xs_end dJ0_checkIndex_df160_9 rfl K
theorem bJ1_charAt_3b067_0 {I : Nat → Nat → Int32} {L : Nat → Int64} {Q : Option Value → (Nat → Nat → Int32) → (Nat → Int64) → Prop} {i : Nat} {v1 : Int32} (hi : i < 2) (K : XS mJ0_checkIndex_df160 0 [(0, .int v1), (1, .int (Int32.ofNat (([5, 4] : List Nat).getD i 0)))] [] I L (fun r I' L' => XS mJ1_charAt_3b067 6 [(0, .ref (1000010 + i)), (1, .int v1)] (r.toList ++ []) I' L' Q)) : XS mJ1_charAt_3b067 0 [(0, .ref (1000010 + i)), (1, .int v1)] [] I L Q := by
  refine x_iload_n 1 dJ1_charAt_3b067_0 rfl rfl ?_
  refine x_aload_n 0 dJ1_charAt_3b067_1 rfl rfl ?_
  refine x_strL i hi dJ1_charAt_3b067_2 ?_
  exact xs_callS mJ0_checkIndex_df160 [.int v1, .int (Int32.ofNat (([5, 4] : List Nat).getD i 0))] [] 2 _ rfl dJ1_charAt_3b067_3 ml_J1_9 qJ0_checkIndex_df160 rfl ⟨Nat.le_of_ble_eq_true rfl, Nat.le_of_ble_eq_true rfl⟩ ⟨rfl, rfl⟩ (Nat.le_of_ble_eq_true rfl) (Nat.le_of_ble_eq_true rfl) (K)
theorem bJ1_charAt_3b067_6 {I : Nat → Nat → Int32} {L : Nat → Int64} {Q : Option Value → (Nat → Nat → Int32) → (Nat → Int64) → Prop} {i : Nat} {v1 : Int32} (hi : i < 2) (hb1 : vp_in v1 (([5, 4] : List Nat).getD i 0)) (hn : narrow .char (.int ((((([[110, 111, 100, 101, 115], [108, 105, 110, 107]] : List (List Int32)).getD i []).getD v1.toNatClampNeg 0) &&& (255 : Int32)).toUInt32 % 65536).toInt32) = .int ((((([[110, 111, 100, 101, 115], [108, 105, 110, 107]] : List (List Int32)).getD i []).getD v1.toNatClampNeg 0) &&& (255 : Int32)).toUInt32 % 65536).toInt32) (K : Q (some (.int ((((([[110, 111, 100, 101, 115], [108, 105, 110, 107]] : List (List Int32)).getD i []).getD v1.toNatClampNeg 0) &&& (255 : Int32)).toUInt32 % 65536).toInt32)) I L) : XS mJ1_charAt_3b067 6 [(0, .ref (1000010 + i)), (1, .int v1)] [] I L Q := by
  refine x_aload_n 0 dJ1_charAt_3b067_6 rfl rfl ?_
  refine x_iload_n 1 dJ1_charAt_3b067_7 rfl rfl ?_
  refine x_strB i hi hb1 dJ1_charAt_3b067_8 ?_
  refine x_sipush (v := (255 : Int32)) dJ1_charAt_3b067_9 (by decide) ?_
  refine x_iand dJ1_charAt_3b067_12 ?_
  refine x_i2c dJ1_charAt_3b067_13 ?_
  exact xs_iret dJ1_charAt_3b067_14 rfl hn K
theorem bJ7_fill_53178_0 {I : Nat → Nat → Int32} {L : Nat → Int64} {Q : Option Value → (Nat → Nat → Int32) → (Nat → Int64) → Prop} {a0 : Nat} {v1 : Int32} {n_a0 : Nat} (hs_a0 : x_SH[a0]? = some (1, n_a0)) (K : XS mJ7_fill_53178 5 [(0, .ref a0), (1, .int v1), (2, .int (0 : Int32)), (3, .int (Int32.ofNat n_a0))] [] I L Q) : XS mJ7_fill_53178 0 [(0, .ref a0), (1, .int v1)] [] I L Q := by
  refine x_iconst (v := (0 : Int32)) dJ7_fill_53178_0 (by decide) ?_
  refine x_istore_n [(0, .ref a0), (1, .int v1), (2, .int (0 : Int32))] dJ7_fill_53178_1 rfl (Nat.le_of_ble_eq_true rfl) rfl ?_
  refine x_aload_n 0 dJ7_fill_53178_2 rfl rfl ?_
  refine x_alen (t := 0) (Int32.ofNat n_a0) dJ7_fill_53178_3 hs_a0 rfl ?_
  refine x_istore_n [(0, .ref a0), (1, .int v1), (2, .int (0 : Int32)), (3, .int (Int32.ofNat n_a0))] dJ7_fill_53178_4 rfl (Nat.le_of_ble_eq_true rfl) rfl ?_
  exact K
theorem bJ7_fill_53178_5 {I : Nat → Nat → Int32} {L : Nat → Int64} {Q : Option Value → (Nat → Nat → Int32) → (Nat → Int64) → Prop} {a0 : Nat} {v1 : Int32} {v2 : Int32} {v3 : Int32}  (K1 : (v3 ≤ v2) → XS mJ7_fill_53178 20 [] [] I L Q) (K2 : (¬ v3 ≤ v2) → XS mJ7_fill_53178 10 [(0, .ref a0), (1, .int v1), (2, .int v2), (3, .int v3)] [] I L Q) : XS mJ7_fill_53178 5 [(0, .ref a0), (1, .int v1), (2, .int v2), (3, .int v3)] [] I L Q := by
  refine x_iload_n 2 dJ7_fill_53178_5 rfl rfl ?_
  refine x_iload_n 3 dJ7_fill_53178_6 rfl rfl ?_
  exact x_icmp_ge 20 dJ7_fill_53178_7 (by decide) (fun h => x_sub [] rfl (K1 h)) (fun h => K2 h)
theorem bJ7_fill_53178_10 {I : Nat → Nat → Int32} {L : Nat → Int64} {Q : Option Value → (Nat → Nat → Int32) → (Nat → Int64) → Prop} {a0 : Nat} {v1 : Int32} {v2 : Int32} {v3 : Int32} {n_a0 : Nat} (hs_a0 : x_SH[a0]? = some (1, n_a0)) (hb1 : vp_in v2 n_a0) (K : XS mJ7_fill_53178 5 [(0, .ref a0), (1, .int v1), (2, .int (v2 + (1 : Int32))), (3, .int v3)] [] (x_up I (64 * a0) (v2.toNatClampNeg) v1) L Q) : XS mJ7_fill_53178 10 [(0, .ref a0), (1, .int v1), (2, .int v2), (3, .int v3)] [] I L Q := by
  refine x_aload_n 0 dJ7_fill_53178_10 rfl rfl ?_
  refine x_iload_n 2 dJ7_fill_53178_11 rfl rfl ?_
  refine x_iload_n 1 dJ7_fill_53178_12 rfl rfl ?_
  refine xs_iast (64 * a0) (v2.toNatClampNeg) dJ7_fill_53178_13 hs_a0 rfl rfl hb1 ?_
  refine x_iinc 2 (v2 + (1 : Int32)) [(0, .ref a0), (1, .int v1), (2, .int (v2 + (1 : Int32))), (3, .int v3)] dJ7_fill_53178_14 rfl rfl (Nat.le_of_ble_eq_true rfl) rfl ?_
  exact x_goto 5 dJ7_fill_53178_17 (by decide) (K)
theorem bJ7_fill_53178_20 {I : Nat → Nat → Int32} {L : Nat → Int64} {Q : Option Value → (Nat → Nat → Int32) → (Nat → Int64) → Prop}   (K : Q none I L) : XS mJ7_fill_53178 20 [] [] I L Q := by
  exact xs_end dJ7_fill_53178_20 rfl K
theorem bJ3_checkIndex_8e157_0 {I : Nat → Nat → Int32} {L : Nat → Int64} {Q : Option Value → (Nat → Nat → Int32) → (Nat → Int64) → Prop} {v0 : Int32} {v1 : Int32} {v2 : Value}  (K1 : (v0 < 0) → XS mJ3_checkIndex_8e157 9 [(0, .int v0), (1, .int v1), (2, v2)] [] I L Q) (K2 : (¬ v0 < 0) → XS mJ3_checkIndex_8e157 4 [(0, .int v0), (1, .int v1), (2, v2)] [] I L Q) : XS mJ3_checkIndex_8e157 0 [(0, .int v0), (1, .int v1), (2, v2)] [] I L Q := by
  refine x_iload_n 0 dJ3_checkIndex_8e157_0 rfl rfl ?_
  exact x_if_lt 9 dJ3_checkIndex_8e157_1 (by decide) (fun h => K1 h) (fun h => K2 h)
theorem bJ3_checkIndex_8e157_4 {I : Nat → Nat → Int32} {L : Nat → Int64} {Q : Option Value → (Nat → Nat → Int32) → (Nat → Int64) → Prop} {v0 : Int32} {v1 : Int32} {v2 : Value}  (K1 : (v0 < v1) → XS mJ3_checkIndex_8e157 16 [(0, .int v0)] [] I L Q) (K2 : (¬ v0 < v1) → XS mJ3_checkIndex_8e157 9 [(0, .int v0), (1, .int v1), (2, v2)] [] I L Q) : XS mJ3_checkIndex_8e157 4 [(0, .int v0), (1, .int v1), (2, v2)] [] I L Q := by
  refine x_iload_n 0 dJ3_checkIndex_8e157_4 rfl rfl ?_
  refine x_iload_n 1 dJ3_checkIndex_8e157_5 rfl rfl ?_
  exact x_icmp_lt 16 dJ3_checkIndex_8e157_6 (by decide) (fun h => x_sub [0] rfl (K1 h)) (fun h => K2 h)
theorem bJ3_checkIndex_8e157_16 {I : Nat → Nat → Int32} {L : Nat → Int64} {Q : Option Value → (Nat → Nat → Int32) → (Nat → Int64) → Prop} {v0 : Int32}  (K : Q (some (.int v0)) I L) : XS mJ3_checkIndex_8e157 16 [(0, .int v0)] [] I L Q := by
  refine x_iload_n 0 dJ3_checkIndex_8e157_16 rfl rfl ?_
  exact xs_iret dJ3_checkIndex_8e157_17 rfl rfl K
