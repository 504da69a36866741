/-! ===== blocks ===== -/
theorem bX2_pairOf_0 {I : Nat → Nat → Int32} {L : Nat → Int64} {Q : Option Value → (Nat → Nat → Int32) → (Nat → Int64) → Prop} {v0 : Int32} {v1 : Int32}  (K : Q (some (.long ((1 : Int64) <<< ((((if v1 < v0 then v1 else v0) * (8 : Int32)) + (if v0 < v1 then v1 else v0)).toInt64 &&& 63)))) I L) : XS mX2_pairOf 0 [(0, .int v0), (1, .int v1)] [] I L Q := by
  refine x_lconst (v := (1 : Int64)) dX2_pairOf_0 (by decide) ?_
  refine x_iload_n 0 dX2_pairOf_1 rfl rfl ?_
  refine x_iload_n 1 dX2_pairOf_2 rfl rfl ?_
  refine x_mathMin dX2_pairOf_3 ml_X2_40 qm_min.1 qm_min.2.1 qm_min.2.2 (Nat.le_of_ble_eq_true rfl) (Nat.le_of_ble_eq_true rfl) ?_
  refine x_bipush (v := (8 : Int32)) dX2_pairOf_6 (by decide) ?_
  refine x_imul dX2_pairOf_8 ?_
  refine x_iload_n 0 dX2_pairOf_9 rfl rfl ?_
  refine x_iload_n 1 dX2_pairOf_10 rfl rfl ?_
  refine x_mathMax dX2_pairOf_11 ml_X2_46 qm_max.1 qm_max.2.1 qm_max.2.2 (Nat.le_of_ble_eq_true rfl) (Nat.le_of_ble_eq_true rfl) ?_
  refine x_iadd dX2_pairOf_14 ?_
  refine x_lshl dX2_pairOf_15 ?_
  exact xs_lret dX2_pairOf_16 rfl K
theorem bX2_pairsWithLinks_0 {I : Nat → Nat → Int32} {L : Nat → Int64} {Q : Option Value → (Nat → Nat → Int32) → (Nat → Int64) → Prop}   (K : XS mX2_pairsWithLinks 4 [(0, .ref 1), (1, .long (0 : Int64)), (3, .int (0 : Int32))] [] I L Q) : XS mX2_pairsWithLinks 0 [(0, .ref 1)] [] I L Q := by
  refine x_lconst (v := (0 : Int64)) dX2_pairsWithLinks_0 (by decide) ?_
  refine x_lstore_n [(0, .ref 1), (1, .long (0 : Int64))] dX2_pairsWithLinks_1 rfl (Nat.le_of_ble_eq_true rfl) rfl ?_
  refine x_iconst (v := (0 : Int32)) dX2_pairsWithLinks_2 (by decide) ?_
  refine x_istore_n [(0, .ref 1), (1, .long (0 : Int64)), (3, .int (0 : Int32))] dX2_pairsWithLinks_3 rfl (Nat.le_of_ble_eq_true rfl) rfl ?_
  exact K
theorem bX2_pairsWithLinks_4 {I : Nat → Nat → Int32} {L : Nat → Int64} {Q : Option Value → (Nat → Nat → Int32) → (Nat → Int64) → Prop} {v1 : Int64} {v3 : Int32}  (K1 : ((I 65 0) ≤ v3) → XS mX2_pairsWithLinks 36 [(1, .long v1)] [] I L Q) (K2 : (¬ (I 65 0) ≤ v3) → XS mX2_pairsWithLinks 12 [(0, .ref 1), (1, .long v1), (3, .int v3)] [] I L Q) : XS mX2_pairsWithLinks 4 [(0, .ref 1), (1, .long v1), (3, .int v3)] [] I L Q := by
  refine x_iload_n 2 dX2_pairsWithLinks_4 rfl rfl ?_
  refine x_aload_n 0 dX2_pairsWithLinks_5 rfl rfl ?_
  refine xs_geti 65 dX2_pairsWithLinks_6 fl_X2_15 sh_1 rfl rfl ?_
  exact x_icmp_ge 36 dX2_pairsWithLinks_9 (by decide) (fun h => x_sub [1] rfl (K1 h)) (fun h => K2 h)
theorem bX2_pairsWithLinks_12 {I : Nat → Nat → Int32} {L : Nat → Int64} {Q : Option Value → (Nat → Nat → Int32) → (Nat → Int64) → Prop} {v1 : Int64} {v3 : Int32} (hb1 : vp_in v3 14) (hb2 : vp_in v3 14) (K : XS mX2_pairOf 0 [(0, .int (I 128 (v3.toNatClampNeg))), (1, .int (I 192 (v3.toNatClampNeg)))] [] I L (fun r I' L' => XS mX2_pairsWithLinks 28 [(0, .ref 1), (3, .int v3)] (r.toList ++ [.long v1]) I' L' Q)) : XS mX2_pairsWithLinks 12 [(0, .ref 1), (1, .long v1), (3, .int v3)] [] I L Q := by
  refine x_lload_n 1 dX2_pairsWithLinks_12 rfl rfl ?_
  refine x_aload_n 0 dX2_pairsWithLinks_13 rfl rfl ?_
  refine xs_getr dX2_pairsWithLinks_14 fl_X2_21 sh_1 rfl rf_67 ?_
  refine x_iload_n 2 dX2_pairsWithLinks_17 rfl rfl ?_
  refine xs_iald 128 (v3.toNatClampNeg) dX2_pairsWithLinks_18 sh_2 rfl rfl hb1 ?_
  refine x_aload_n 0 dX2_pairsWithLinks_19 rfl rfl ?_
  refine xs_getr dX2_pairsWithLinks_20 fl_X2_25 sh_1 rfl rf_68 ?_
  refine x_iload_n 2 dX2_pairsWithLinks_23 rfl rfl ?_
  refine xs_iald 192 (v3.toNatClampNeg) dX2_pairsWithLinks_24 sh_3 rfl rfl hb2 ?_
  refine x_sub [0, 2] rfl ?_
  exact xs_callS mX2_pairOf [.int (I 128 (v3.toNatClampNeg)), .int (I 192 (v3.toNatClampNeg))] [.long v1] 2 _ rfl dX2_pairsWithLinks_25 ml_X2_49 qX2_pairOf rfl ⟨Nat.le_of_ble_eq_true rfl, Nat.le_of_ble_eq_true rfl⟩ ⟨rfl, rfl⟩ (Nat.le_of_ble_eq_true rfl) (Nat.le_of_ble_eq_true rfl) (K)
theorem bX2_pairsWithLinks_28 {I : Nat → Nat → Int32} {L : Nat → Int64} {Q : Option Value → (Nat → Nat → Int32) → (Nat → Int64) → Prop} {v3 : Int32} {s0 : Int64} {s1 : Int64}  (K : XS mX2_pairsWithLinks 4 [(0, .ref 1), (1, .long (s0 ||| s1)), (3, .int (v3 + (1 : Int32)))] [] I L Q) : XS mX2_pairsWithLinks 28 [(0, .ref 1), (3, .int v3)] [.long s1, .long s0] I L Q := by
  refine x_lor dX2_pairsWithLinks_28 ?_
  refine x_lstore_n [(0, .ref 1), (1, .long (s0 ||| s1)), (3, .int v3)] dX2_pairsWithLinks_29 rfl (Nat.le_of_ble_eq_true rfl) rfl ?_
  refine x_iinc 2 (v3 + (1 : Int32)) [(0, .ref 1), (1, .long (s0 ||| s1)), (3, .int (v3 + (1 : Int32)))] dX2_pairsWithLinks_30 rfl rfl (Nat.le_of_ble_eq_true rfl) rfl ?_
  exact x_goto 4 dX2_pairsWithLinks_33 (by decide) (K)
theorem bX2_pairsWithLinks_36 {I : Nat → Nat → Int32} {L : Nat → Int64} {Q : Option Value → (Nat → Nat → Int32) → (Nat → Int64) → Prop} {v1 : Int64}  (K : Q (some (.long v1)) I L) : XS mX2_pairsWithLinks 36 [(1, .long v1)] [] I L Q := by
  refine x_lload_n 0 dX2_pairsWithLinks_36 rfl rfl ?_
  exact xs_lret dX2_pairsWithLinks_37 rfl K
theorem bX2_hasNode_0 {I : Nat → Nat → Int32} {L : Nat → Int64} {Q : Option Value → (Nat → Nat → Int32) → (Nat → Int64) → Prop} {v1 : Int32}  (K1 : (v1 < 0) → XS mX2_hasNode 16 [] [] I L Q) (K2 : (¬ v1 < 0) → XS mX2_hasNode 4 [(0, .ref 1), (1, .int v1)] [] I L Q) : XS mX2_hasNode 0 [(0, .ref 1), (1, .int v1)] [] I L Q := by
  refine x_iload_n 1 dX2_hasNode_0 rfl rfl ?_
  exact x_if_lt 16 dX2_hasNode_1 (by decide) (fun h => x_sub [] rfl (K1 h)) (fun h => K2 h)
theorem bX2_hasNode_4 {I : Nat → Nat → Int32} {L : Nat → Int64} {Q : Option Value → (Nat → Nat → Int32) → (Nat → Int64) → Prop} {v1 : Int32}  (K1 : ((I 64 0) ≤ v1) → XS mX2_hasNode 16 [] [] I L Q) (K2 : (¬ (I 64 0) ≤ v1) → XS mX2_hasNode 12 [] [] I L Q) : XS mX2_hasNode 4 [(0, .ref 1), (1, .int v1)] [] I L Q := by
  refine x_iload_n 1 dX2_hasNode_4 rfl rfl ?_
  refine x_aload_n 0 dX2_hasNode_5 rfl rfl ?_
  refine xs_geti 64 dX2_hasNode_6 fl_X2_9 sh_1 rfl rfl ?_
  exact x_icmp_ge 16 dX2_hasNode_9 (by decide) (fun h => x_sub [] rfl (K1 h)) (fun h => x_sub [] rfl (K2 h))
theorem bX2_hasNode_12 {I : Nat → Nat → Int32} {L : Nat → Int64} {Q : Option Value → (Nat → Nat → Int32) → (Nat → Int64) → Prop}   (K : XS mX2_hasNode 17 [] [.int (1 : Int32)] I L Q) : XS mX2_hasNode 12 [] [] I L Q := by
  refine x_iconst (v := (1 : Int32)) dX2_hasNode_12 (by decide) ?_
  exact x_goto 17 dX2_hasNode_13 (by decide) (K)
theorem bX2_hasNode_16 {I : Nat → Nat → Int32} {L : Nat → Int64} {Q : Option Value → (Nat → Nat → Int32) → (Nat → Int64) → Prop}   (K : XS mX2_hasNode 17 [] [.int (0 : Int32)] I L Q) : XS mX2_hasNode 16 [] [] I L Q := by
  refine x_iconst (v := (0 : Int32)) dX2_hasNode_16 (by decide) ?_
  exact K
theorem bX2_hasNode_17 {I : Nat → Nat → Int32} {L : Nat → Int64} {Q : Option Value → (Nat → Nat → Int32) → (Nat → Int64) → Prop} {s0 : Int32} (hz1 : s0 = 0 ∨ s0 = 1) (K : Q (some (.int s0)) I L) : XS mX2_hasNode 17 [] [.int s0] I L Q := by
  exact xs_iret dX2_hasNode_17 rfl (x_nar _ hz1) K
theorem bX2_hasLink_0 {I : Nat → Nat → Int32} {L : Nat → Int64} {Q : Option Value → (Nat → Nat → Int32) → (Nat → Int64) → Prop} {v1 : Int32}  (K1 : (v1 < 0) → XS mX2_hasLink 16 [] [] I L Q) (K2 : (¬ v1 < 0) → XS mX2_hasLink 4 [(0, .ref 1), (1, .int v1)] [] I L Q) : XS mX2_hasLink 0 [(0, .ref 1), (1, .int v1)] [] I L Q := by
  refine x_iload_n 1 dX2_hasLink_0 rfl rfl ?_
  exact x_if_lt 16 dX2_hasLink_1 (by decide) (fun h => x_sub [] rfl (K1 h)) (fun h => K2 h)
theorem bX2_hasLink_4 {I : Nat → Nat → Int32} {L : Nat → Int64} {Q : Option Value → (Nat → Nat → Int32) → (Nat → Int64) → Prop} {v1 : Int32}  (K1 : ((I 65 0) ≤ v1) → XS mX2_hasLink 16 [] [] I L Q) (K2 : (¬ (I 65 0) ≤ v1) → XS mX2_hasLink 12 [] [] I L Q) : XS mX2_hasLink 4 [(0, .ref 1), (1, .int v1)] [] I L Q := by
  refine x_iload_n 1 dX2_hasLink_4 rfl rfl ?_
  refine x_aload_n 0 dX2_hasLink_5 rfl rfl ?_
  refine xs_geti 65 dX2_hasLink_6 fl_X2_15 sh_1 rfl rfl ?_
  exact x_icmp_ge 16 dX2_hasLink_9 (by decide) (fun h => x_sub [] rfl (K1 h)) (fun h => x_sub [] rfl (K2 h))
theorem bX2_hasLink_12 {I : Nat → Nat → Int32} {L : Nat → Int64} {Q : Option Value → (Nat → Nat → Int32) → (Nat → Int64) → Prop}   (K : XS mX2_hasLink 17 [] [.int (1 : Int32)] I L Q) : XS mX2_hasLink 12 [] [] I L Q := by
  refine x_iconst (v := (1 : Int32)) dX2_hasLink_12 (by decide) ?_
  exact x_goto 17 dX2_hasLink_13 (by decide) (K)
theorem bX2_hasLink_16 {I : Nat → Nat → Int32} {L : Nat → Int64} {Q : Option Value → (Nat → Nat → Int32) → (Nat → Int64) → Prop}   (K : XS mX2_hasLink 17 [] [.int (0 : Int32)] I L Q) : XS mX2_hasLink 16 [] [] I L Q := by
  refine x_iconst (v := (0 : Int32)) dX2_hasLink_16 (by decide) ?_
  exact K
theorem bX2_hasLink_17 {I : Nat → Nat → Int32} {L : Nat → Int64} {Q : Option Value → (Nat → Nat → Int32) → (Nat → Int64) → Prop} {s0 : Int32} (hz1 : s0 = 0 ∨ s0 = 1) (K : Q (some (.int s0)) I L) : XS mX2_hasLink 17 [] [.int s0] I L Q := by
  exact xs_iret dX2_hasLink_17 rfl (x_nar _ hz1) K
theorem bX2_isUp_0 {I : Nat → Nat → Int32} {L : Nat → Int64} {Q : Option Value → (Nat → Nat → Int32) → (Nat → Int64) → Prop} {v1 : Int32}  (K1 : (¬ (((I 66 0) >>> (v1 &&& 31)) &&& (1 : Int32)) = (1 : Int32)) → XS mX2_isUp 16 [] [] I L Q) (K2 : ((((I 66 0) >>> (v1 &&& 31)) &&& (1 : Int32)) = (1 : Int32)) → XS mX2_isUp 12 [] [] I L Q) : XS mX2_isUp 0 [(0, .ref 1), (1, .int v1)] [] I L Q := by
  refine x_aload_n 0 dX2_isUp_0 rfl rfl ?_
  refine xs_geti 66 dX2_isUp_1 fl_X2_18 sh_1 rfl rfl ?_
  refine x_iload_n 1 dX2_isUp_4 rfl rfl ?_
  refine x_ishr dX2_isUp_5 ?_
  refine x_iconst (v := (1 : Int32)) dX2_isUp_6 (by decide) ?_
  refine x_iand dX2_isUp_7 ?_
  refine x_iconst (v := (1 : Int32)) dX2_isUp_8 (by decide) ?_
  exact x_icmp_ne 16 dX2_isUp_9 (by decide) (fun h => x_sub [] rfl (K1 h)) (fun h => x_sub [] rfl (K2 h))
theorem bX2_isUp_12 {I : Nat → Nat → Int32} {L : Nat → Int64} {Q : Option Value → (Nat → Nat → Int32) → (Nat → Int64) → Prop}   (K : XS mX2_isUp 17 [] [.int (1 : Int32)] I L Q) : XS mX2_isUp 12 [] [] I L Q := by
  refine x_iconst (v := (1 : Int32)) dX2_isUp_12 (by decide) ?_
  exact x_goto 17 dX2_isUp_13 (by decide) (K)
theorem bX2_isUp_16 {I : Nat → Nat → Int32} {L : Nat → Int64} {Q : Option Value → (Nat → Nat → Int32) → (Nat → Int64) → Prop}   (K : XS mX2_isUp 17 [] [.int (0 : Int32)] I L Q) : XS mX2_isUp 16 [] [] I L Q := by
  refine x_iconst (v := (0 : Int32)) dX2_isUp_16 (by decide) ?_
  exact K
theorem bX2_isUp_17 {I : Nat → Nat → Int32} {L : Nat → Int64} {Q : Option Value → (Nat → Nat → Int32) → (Nat → Int64) → Prop} {s0 : Int32} (hz1 : s0 = 0 ∨ s0 = 1) (K : Q (some (.int s0)) I L) : XS mX2_isUp 17 [] [.int s0] I L Q := by
  exact xs_iret dX2_isUp_17 rfl (x_nar _ hz1) K
theorem bX2_otherEnd_0 {I : Nat → Nat → Int32} {L : Nat → Int64} {Q : Option Value → (Nat → Nat → Int32) → (Nat → Int64) → Prop} {v1 : Int32} {v2 : Int32}  (K : XS mX2_hasLink 0 [(0, .ref 1), (1, .int v1)] [] I L (fun r I' L' => XS mX2_otherEnd 5 [(0, .ref 1), (1, .int v1), (2, .int v2)] (r.toList ++ []) I' L' Q)) : XS mX2_otherEnd 0 [(0, .ref 1), (1, .int v1), (2, .int v2)] [] I L Q := by
  refine x_aload_n 0 dX2_otherEnd_0 rfl rfl ?_
  refine x_iload_n 1 dX2_otherEnd_1 rfl rfl ?_
  exact xs_callV mX2_hasLink [.int v1] [] 1 2 1 _ rfl dX2_otherEnd_2 ml_X2_53 qX2_hasLink rfl ⟨Nat.le_of_ble_eq_true rfl, Nat.le_of_ble_eq_true rfl⟩ ⟨rfl, rfl⟩ (Nat.le_of_ble_eq_true rfl) sh_1 (by decide) rfl (Nat.le_of_ble_eq_true rfl) (K)
theorem bX2_otherEnd_5 {I : Nat → Nat → Int32} {L : Nat → Int64} {Q : Option Value → (Nat → Nat → Int32) → (Nat → Int64) → Prop} {v1 : Int32} {v2 : Int32} {s0 : Int32}  (K1 : (¬ s0 = 0) → XS mX2_otherEnd 10 [(0, .ref 1), (1, .int v1), (2, .int v2)] [] I L Q) (K2 : (s0 = 0) → XS mX2_otherEnd 8 [] [] I L Q) : XS mX2_otherEnd 5 [(0, .ref 1), (1, .int v1), (2, .int v2)] [.int s0] I L Q := by
  exact x_if_ne 10 dX2_otherEnd_5 (by decide) (fun h => K1 h) (fun h => x_sub [] rfl (K2 h))
theorem bX2_otherEnd_8 {I : Nat → Nat → Int32} {L : Nat → Int64} {Q : Option Value → (Nat → Nat → Int32) → (Nat → Int64) → Prop}   (K : Q (some (.int (-1 : Int32))) I L) : XS mX2_otherEnd 8 [] [] I L Q := by
  refine x_iconst (v := (-1 : Int32)) dX2_otherEnd_8 (by decide) ?_
  exact xs_iret dX2_otherEnd_9 rfl rfl K
theorem bX2_otherEnd_10 {I : Nat → Nat → Int32} {L : Nat → Int64} {Q : Option Value → (Nat → Nat → Int32) → (Nat → Int64) → Prop} {v1 : Int32} {v2 : Int32} (hb1 : vp_in v1 14) (K1 : (¬ (I 128 (v1.toNatClampNeg)) = v2) → XS mX2_otherEnd 27 [(0, .ref 1), (1, .int v1), (2, .int v2)] [] I L Q) (K2 : ((I 128 (v1.toNatClampNeg)) = v2) → XS mX2_otherEnd 20 [(0, .ref 1), (1, .int v1)] [] I L Q) : XS mX2_otherEnd 10 [(0, .ref 1), (1, .int v1), (2, .int v2)] [] I L Q := by
  refine x_aload_n 0 dX2_otherEnd_10 rfl rfl ?_
  refine xs_getr dX2_otherEnd_11 fl_X2_21 sh_1 rfl rf_67 ?_
  refine x_iload_n 1 dX2_otherEnd_14 rfl rfl ?_
  refine xs_iald 128 (v1.toNatClampNeg) dX2_otherEnd_15 sh_2 rfl rfl hb1 ?_
  refine x_iload_n 2 dX2_otherEnd_16 rfl rfl ?_
  exact x_icmp_ne 27 dX2_otherEnd_17 (by decide) (fun h => K1 h) (fun h => x_sub [0, 1] rfl (K2 h))
theorem bX2_otherEnd_20 {I : Nat → Nat → Int32} {L : Nat → Int64} {Q : Option Value → (Nat → Nat → Int32) → (Nat → Int64) → Prop} {v1 : Int32} (hb1 : vp_in v1 14) (K : Q (some (.int (I 192 (v1.toNatClampNeg)))) I L) : XS mX2_otherEnd 20 [(0, .ref 1), (1, .int v1)] [] I L Q := by
  refine x_aload_n 0 dX2_otherEnd_20 rfl rfl ?_
  refine xs_getr dX2_otherEnd_21 fl_X2_25 sh_1 rfl rf_68 ?_
  refine x_iload_n 1 dX2_otherEnd_24 rfl rfl ?_
  refine xs_iald 192 (v1.toNatClampNeg) dX2_otherEnd_25 sh_3 rfl rfl hb1 ?_
  exact xs_iret dX2_otherEnd_26 rfl rfl K
theorem bX2_otherEnd_27 {I : Nat → Nat → Int32} {L : Nat → Int64} {Q : Option Value → (Nat → Nat → Int32) → (Nat → Int64) → Prop} {v1 : Int32} {v2 : Int32} (hb1 : vp_in v1 14) (K1 : (¬ (I 192 (v1.toNatClampNeg)) = v2) → XS mX2_otherEnd 46 [] [] I L Q) (K2 : ((I 192 (v1.toNatClampNeg)) = v2) → XS mX2_otherEnd 37 [(0, .ref 1), (1, .int v1)] [] I L Q) : XS mX2_otherEnd 27 [(0, .ref 1), (1, .int v1), (2, .int v2)] [] I L Q := by
  refine x_aload_n 0 dX2_otherEnd_27 rfl rfl ?_
  refine xs_getr dX2_otherEnd_28 fl_X2_25 sh_1 rfl rf_68 ?_
  refine x_iload_n 1 dX2_otherEnd_31 rfl rfl ?_
  refine xs_iald 192 (v1.toNatClampNeg) dX2_otherEnd_32 sh_3 rfl rfl hb1 ?_
  refine x_iload_n 2 dX2_otherEnd_33 rfl rfl ?_
  exact x_icmp_ne 46 dX2_otherEnd_34 (by decide) (fun h => x_sub [] rfl (K1 h)) (fun h => x_sub [0, 1] rfl (K2 h))
theorem bX2_otherEnd_37 {I : Nat → Nat → Int32} {L : Nat → Int64} {Q : Option Value → (Nat → Nat → Int32) → (Nat → Int64) → Prop} {v1 : Int32} (hb1 : vp_in v1 14) (K : XS mX2_otherEnd 47 [] [.int (I 128 (v1.toNatClampNeg))] I L Q) : XS mX2_otherEnd 37 [(0, .ref 1), (1, .int v1)] [] I L Q := by
  refine x_aload_n 0 dX2_otherEnd_37 rfl rfl ?_
  refine xs_getr dX2_otherEnd_38 fl_X2_21 sh_1 rfl rf_67 ?_
  refine x_iload_n 1 dX2_otherEnd_41 rfl rfl ?_
  refine xs_iald 128 (v1.toNatClampNeg) dX2_otherEnd_42 sh_2 rfl rfl hb1 ?_
  exact x_goto 47 dX2_otherEnd_43 (by decide) (x_sub [] rfl (K))
theorem bX2_otherEnd_46 {I : Nat → Nat → Int32} {L : Nat → Int64} {Q : Option Value → (Nat → Nat → Int32) → (Nat → Int64) → Prop}   (K : XS mX2_otherEnd 47 [] [.int (-1 : Int32)] I L Q) : XS mX2_otherEnd 46 [] [] I L Q := by
  refine x_iconst (v := (-1 : Int32)) dX2_otherEnd_46 (by decide) ?_
  exact K
theorem bX2_otherEnd_47 {I : Nat → Nat → Int32} {L : Nat → Int64} {Q : Option Value → (Nat → Nat → Int32) → (Nat → Int64) → Prop} {s0 : Int32}  (K : Q (some (.int s0)) I L) : XS mX2_otherEnd 47 [] [.int s0] I L Q := by
  exact xs_iret dX2_otherEnd_47 rfl rfl K
theorem bX2_linkBetween_0 {I : Nat → Nat → Int32} {L : Nat → Int64} {Q : Option Value → (Nat → Nat → Int32) → (Nat → Int64) → Prop} {v1 : Int32} {v2 : Int32}  (K : XS mX2_linkBetween 2 [(0, .ref 1), (1, .int v1), (2, .int v2), (3, .int (0 : Int32))] [] I L Q) : XS mX2_linkBetween 0 [(0, .ref 1), (1, .int v1), (2, .int v2)] [] I L Q := by
  refine x_iconst (v := (0 : Int32)) dX2_linkBetween_0 (by decide) ?_
  refine x_istore_n [(0, .ref 1), (1, .int v1), (2, .int v2), (3, .int (0 : Int32))] dX2_linkBetween_1 rfl (Nat.le_of_ble_eq_true rfl) rfl ?_
  exact K
theorem bX2_linkBetween_2 {I : Nat → Nat → Int32} {L : Nat → Int64} {Q : Option Value → (Nat → Nat → Int32) → (Nat → Int64) → Prop} {v1 : Int32} {v2 : Int32} {v3 : Int32}  (K1 : ((I 65 0) ≤ v3) → XS mX2_linkBetween 58 [] [] I L Q) (K2 : (¬ (I 65 0) ≤ v3) → XS mX2_linkBetween 10 [(0, .ref 1), (1, .int v1), (2, .int v2), (3, .int v3)] [] I L Q) : XS mX2_linkBetween 2 [(0, .ref 1), (1, .int v1), (2, .int v2), (3, .int v3)] [] I L Q := by
  refine x_iload_n 3 dX2_linkBetween_2 rfl rfl ?_
  refine x_aload_n 0 dX2_linkBetween_3 rfl rfl ?_
  refine xs_geti 65 dX2_linkBetween_4 fl_X2_15 sh_1 rfl rfl ?_
  exact x_icmp_ge 58 dX2_linkBetween_7 (by decide) (fun h => x_sub [] rfl (K1 h)) (fun h => K2 h)
theorem bX2_linkBetween_10 {I : Nat → Nat → Int32} {L : Nat → Int64} {Q : Option Value → (Nat → Nat → Int32) → (Nat → Int64) → Prop} {v1 : Int32} {v2 : Int32} {v3 : Int32} (hb1 : vp_in v3 14) (K1 : (¬ (I 128 (v3.toNatClampNeg)) = v1) → XS mX2_linkBetween 30 [(0, .ref 1), (1, .int v1), (2, .int v2), (3, .int v3)] [] I L Q) (K2 : ((I 128 (v3.toNatClampNeg)) = v1) → XS mX2_linkBetween 20 [(0, .ref 1), (1, .int v1), (2, .int v2), (3, .int v3)] [] I L Q) : XS mX2_linkBetween 10 [(0, .ref 1), (1, .int v1), (2, .int v2), (3, .int v3)] [] I L Q := by
  refine x_aload_n 0 dX2_linkBetween_10 rfl rfl ?_
  refine xs_getr dX2_linkBetween_11 fl_X2_21 sh_1 rfl rf_67 ?_
  refine x_iload_n 3 dX2_linkBetween_14 rfl rfl ?_
  refine xs_iald 128 (v3.toNatClampNeg) dX2_linkBetween_15 sh_2 rfl rfl hb1 ?_
  refine x_iload_n 1 dX2_linkBetween_16 rfl rfl ?_
  exact x_icmp_ne 30 dX2_linkBetween_17 (by decide) (fun h => K1 h) (fun h => K2 h)
theorem bX2_linkBetween_20 {I : Nat → Nat → Int32} {L : Nat → Int64} {Q : Option Value → (Nat → Nat → Int32) → (Nat → Int64) → Prop} {v1 : Int32} {v2 : Int32} {v3 : Int32} (hb1 : vp_in v3 14) (K1 : ((I 192 (v3.toNatClampNeg)) = v2) → XS mX2_linkBetween 50 [(3, .int v3)] [] I L Q) (K2 : (¬ (I 192 (v3.toNatClampNeg)) = v2) → XS mX2_linkBetween 30 [(0, .ref 1), (1, .int v1), (2, .int v2), (3, .int v3)] [] I L Q) : XS mX2_linkBetween 20 [(0, .ref 1), (1, .int v1), (2, .int v2), (3, .int v3)] [] I L Q := by
  refine x_aload_n 0 dX2_linkBetween_20 rfl rfl ?_
  refine xs_getr dX2_linkBetween_21 fl_X2_25 sh_1 rfl rf_68 ?_
  refine x_iload_n 3 dX2_linkBetween_24 rfl rfl ?_
  refine xs_iald 192 (v3.toNatClampNeg) dX2_linkBetween_25 sh_3 rfl rfl hb1 ?_
  refine x_iload_n 2 dX2_linkBetween_26 rfl rfl ?_
  exact x_icmp_eq 50 dX2_linkBetween_27 (by decide) (fun h => x_sub [3] rfl (K1 h)) (fun h => K2 h)
theorem bX2_linkBetween_30 {I : Nat → Nat → Int32} {L : Nat → Int64} {Q : Option Value → (Nat → Nat → Int32) → (Nat → Int64) → Prop} {v1 : Int32} {v2 : Int32} {v3 : Int32} (hb1 : vp_in v3 14) (K1 : (¬ (I 128 (v3.toNatClampNeg)) = v2) → XS mX2_linkBetween 52 [(0, .ref 1), (1, .int v1), (2, .int v2), (3, .int v3)] [] I L Q) (K2 : ((I 128 (v3.toNatClampNeg)) = v2) → XS mX2_linkBetween 40 [(0, .ref 1), (1, .int v1), (2, .int v2), (3, .int v3)] [] I L Q) : XS mX2_linkBetween 30 [(0, .ref 1), (1, .int v1), (2, .int v2), (3, .int v3)] [] I L Q := by
  refine x_aload_n 0 dX2_linkBetween_30 rfl rfl ?_
  refine xs_getr dX2_linkBetween_31 fl_X2_21 sh_1 rfl rf_67 ?_
  refine x_iload_n 3 dX2_linkBetween_34 rfl rfl ?_
  refine xs_iald 128 (v3.toNatClampNeg) dX2_linkBetween_35 sh_2 rfl rfl hb1 ?_
  refine x_iload_n 2 dX2_linkBetween_36 rfl rfl ?_
  exact x_icmp_ne 52 dX2_linkBetween_37 (by decide) (fun h => K1 h) (fun h => K2 h)
theorem bX2_linkBetween_40 {I : Nat → Nat → Int32} {L : Nat → Int64} {Q : Option Value → (Nat → Nat → Int32) → (Nat → Int64) → Prop} {v1 : Int32} {v2 : Int32} {v3 : Int32} (hb1 : vp_in v3 14) (K1 : (¬ (I 192 (v3.toNatClampNeg)) = v1) → XS mX2_linkBetween 52 [(0, .ref 1), (1, .int v1), (2, .int v2), (3, .int v3)] [] I L Q) (K2 : ((I 192 (v3.toNatClampNeg)) = v1) → XS mX2_linkBetween 50 [(3, .int v3)] [] I L Q) : XS mX2_linkBetween 40 [(0, .ref 1), (1, .int v1), (2, .int v2), (3, .int v3)] [] I L Q := by
  refine x_aload_n 0 dX2_linkBetween_40 rfl rfl ?_
  refine xs_getr dX2_linkBetween_41 fl_X2_25 sh_1 rfl rf_68 ?_
  refine x_iload_n 3 dX2_linkBetween_44 rfl rfl ?_
  refine xs_iald 192 (v3.toNatClampNeg) dX2_linkBetween_45 sh_3 rfl rfl hb1 ?_
  refine x_iload_n 1 dX2_linkBetween_46 rfl rfl ?_
  exact x_icmp_ne 52 dX2_linkBetween_47 (by decide) (fun h => K1 h) (fun h => x_sub [3] rfl (K2 h))
theorem bX2_linkBetween_50 {I : Nat → Nat → Int32} {L : Nat → Int64} {Q : Option Value → (Nat → Nat → Int32) → (Nat → Int64) → Prop} {v3 : Int32}  (K : Q (some (.int v3)) I L) : XS mX2_linkBetween 50 [(3, .int v3)] [] I L Q := by
  refine x_iload_n 0 dX2_linkBetween_50 rfl rfl ?_
  exact xs_iret dX2_linkBetween_51 rfl rfl K
theorem bX2_linkBetween_52 {I : Nat → Nat → Int32} {L : Nat → Int64} {Q : Option Value → (Nat → Nat → Int32) → (Nat → Int64) → Prop} {v1 : Int32} {v2 : Int32} {v3 : Int32}  (K : XS mX2_linkBetween 2 [(0, .ref 1), (1, .int v1), (2, .int v2), (3, .int (v3 + (1 : Int32)))] [] I L Q) : XS mX2_linkBetween 52 [(0, .ref 1), (1, .int v1), (2, .int v2), (3, .int v3)] [] I L Q := by
  refine x_iinc 3 (v3 + (1 : Int32)) [(0, .ref 1), (1, .int v1), (2, .int v2), (3, .int (v3 + (1 : Int32)))] dX2_linkBetween_52 rfl rfl (Nat.le_of_ble_eq_true rfl) rfl ?_
  exact x_goto 2 dX2_linkBetween_55 (by decide) (K)
theorem bX2_linkBetween_58 {I : Nat → Nat → Int32} {L : Nat → Int64} {Q : Option Value → (Nat → Nat → Int32) → (Nat → Int64) → Prop}   (K : Q (some (.int (-1 : Int32))) I L) : XS mX2_linkBetween 58 [] [] I L Q := by
  refine x_iconst (v := (-1 : Int32)) dX2_linkBetween_58 (by decide) ?_
  exact xs_iret dX2_linkBetween_59 rfl rfl K
theorem bX2_behind_0 {I : Nat → Nat → Int32} {L : Nat → Int64} {Q : Option Value → (Nat → Nat → Int32) → (Nat → Int64) → Prop}   (K : XS mX2_behind 4 [(0, .ref 1), (1, .int (0 : Int32)), (2, .int (0 : Int32))] [] I L Q) : XS mX2_behind 0 [(0, .ref 1)] [] I L Q := by
  refine x_iconst (v := (0 : Int32)) dX2_behind_0 (by decide) ?_
  refine x_istore_n [(0, .ref 1), (1, .int (0 : Int32))] dX2_behind_1 rfl (Nat.le_of_ble_eq_true rfl) rfl ?_
  refine x_iconst (v := (0 : Int32)) dX2_behind_2 (by decide) ?_
  refine x_istore_n [(0, .ref 1), (1, .int (0 : Int32)), (2, .int (0 : Int32))] dX2_behind_3 rfl (Nat.le_of_ble_eq_true rfl) rfl ?_
  exact K
theorem bX2_behind_4 {I : Nat → Nat → Int32} {L : Nat → Int64} {Q : Option Value → (Nat → Nat → Int32) → (Nat → Int64) → Prop} {v1 : Int32} {v2 : Int32}  (K1 : ((I 64 0) ≤ v2) → XS mX2_behind 37 [(1, .int v1)] [] I L Q) (K2 : (¬ (I 64 0) ≤ v2) → XS mX2_behind 12 [(0, .ref 1), (1, .int v1), (2, .int v2)] [] I L Q) : XS mX2_behind 4 [(0, .ref 1), (1, .int v1), (2, .int v2)] [] I L Q := by
  refine x_iload_n 2 dX2_behind_4 rfl rfl ?_
  refine x_aload_n 0 dX2_behind_5 rfl rfl ?_
  refine xs_geti 64 dX2_behind_6 fl_X2_9 sh_1 rfl rfl ?_
  exact x_icmp_ge 37 dX2_behind_9 (by decide) (fun h => x_sub [1] rfl (K1 h)) (fun h => K2 h)
theorem bX2_behind_12 {I : Nat → Nat → Int32} {L : Nat → Int64} {Q : Option Value → (Nat → Nat → Int32) → (Nat → Int64) → Prop} {v1 : Int32} {v2 : Int32} (hb1 : vp_in v2 8) (K1 : ((I 448 (v2.toNatClampNeg)) = (I 66 0)) → XS mX2_behind 31 [(0, .ref 1), (1, .int v1), (2, .int v2)] [] I L Q) (K2 : (¬ (I 448 (v2.toNatClampNeg)) = (I 66 0)) → XS mX2_behind 25 [(0, .ref 1), (1, .int v1), (2, .int v2)] [] I L Q) : XS mX2_behind 12 [(0, .ref 1), (1, .int v1), (2, .int v2)] [] I L Q := by
  refine x_aload_n 0 dX2_behind_12 rfl rfl ?_
  refine xs_getr dX2_behind_13 fl_X2_37 sh_1 rfl rf_72 ?_
  refine x_iload_n 2 dX2_behind_16 rfl rfl ?_
  refine xs_iald 448 (v2.toNatClampNeg) dX2_behind_17 sh_7 rfl rfl hb1 ?_
  refine x_aload_n 0 dX2_behind_18 rfl rfl ?_
  refine xs_geti 66 dX2_behind_19 fl_X2_18 sh_1 rfl rfl ?_
  exact x_icmp_eq 31 dX2_behind_22 (by decide) (fun h => K1 h) (fun h => K2 h)
theorem bX2_behind_25 {I : Nat → Nat → Int32} {L : Nat → Int64} {Q : Option Value → (Nat → Nat → Int32) → (Nat → Int64) → Prop} {v1 : Int32} {v2 : Int32}  (K : XS mX2_behind 31 [(0, .ref 1), (1, .int (v1 ||| ((1 : Int32) <<< (v2 &&& 31)))), (2, .int v2)] [] I L Q) : XS mX2_behind 25 [(0, .ref 1), (1, .int v1), (2, .int v2)] [] I L Q := by
  refine x_iload_n 1 dX2_behind_25 rfl rfl ?_
  refine x_iconst (v := (1 : Int32)) dX2_behind_26 (by decide) ?_
  refine x_iload_n 2 dX2_behind_27 rfl rfl ?_
  refine x_ishl dX2_behind_28 ?_
  refine x_ior dX2_behind_29 ?_
  refine x_istore_n [(0, .ref 1), (1, .int (v1 ||| ((1 : Int32) <<< (v2 &&& 31)))), (2, .int v2)] dX2_behind_30 rfl (Nat.le_of_ble_eq_true rfl) rfl ?_
  exact K
theorem bX2_behind_31 {I : Nat → Nat → Int32} {L : Nat → Int64} {Q : Option Value → (Nat → Nat → Int32) → (Nat → Int64) → Prop} {v1 : Int32} {v2 : Int32}  (K : XS mX2_behind 4 [(0, .ref 1), (1, .int v1), (2, .int (v2 + (1 : Int32)))] [] I L Q) : XS mX2_behind 31 [(0, .ref 1), (1, .int v1), (2, .int v2)] [] I L Q := by
  refine x_iinc 2 (v2 + (1 : Int32)) [(0, .ref 1), (1, .int v1), (2, .int (v2 + (1 : Int32)))] dX2_behind_31 rfl rfl (Nat.le_of_ble_eq_true rfl) rfl ?_
  exact x_goto 4 dX2_behind_34 (by decide) (K)
theorem bX2_behind_37 {I : Nat → Nat → Int32} {L : Nat → Int64} {Q : Option Value → (Nat → Nat → Int32) → (Nat → Int64) → Prop} {v1 : Int32}  (K : Q (some (.int v1)) I L) : XS mX2_behind 37 [(1, .int v1)] [] I L Q := by
  refine x_iload_n 0 dX2_behind_37 rfl rfl ?_
  exact xs_iret dX2_behind_38 rfl rfl K
theorem bX2_startAnew_0 {I : Nat → Nat → Int32} {L : Nat → Int64} {Q : Option Value → (Nat → Nat → Int32) → (Nat → Int64) → Prop} {v1 : Int32}  (K : XS mJ7_fill_53178 0 [(0, .ref 7), (1, .int (0 : Int32))] [] (x_up (x_up (x_up I 64 0 v1) 65 0 (0 : Int32)) 66 0 (0 : Int32)) L (fun r I' L' => XS mX2_startAnew 23 [] (r.toList ++ []) I' L' Q)) : XS mX2_startAnew 0 [(0, .ref 1), (1, .int v1)] [] I L Q := by
  refine x_aload_n 0 dX2_startAnew_0 rfl rfl ?_
  refine x_iload_n 1 dX2_startAnew_1 rfl rfl ?_
  refine xs_puti 64 dX2_startAnew_2 fl_X2_9 sh_1 rfl rfl rfl ?_
  refine x_aload_n 0 dX2_startAnew_5 rfl rfl ?_
  refine x_iconst (v := (0 : Int32)) dX2_startAnew_6 (by decide) ?_
  refine xs_puti 65 dX2_startAnew_7 fl_X2_15 sh_1 rfl rfl rfl ?_
  refine x_aload_n 0 dX2_startAnew_10 rfl rfl ?_
  refine x_iconst (v := (0 : Int32)) dX2_startAnew_11 (by decide) ?_
  refine xs_puti 66 dX2_startAnew_12 fl_X2_18 sh_1 rfl rfl rfl ?_
  refine x_aload_n 0 dX2_startAnew_15 rfl rfl ?_
  refine xs_getr dX2_startAnew_16 fl_X2_37 sh_1 rfl rf_72 ?_
  refine x_iconst (v := (0 : Int32)) dX2_startAnew_19 (by decide) ?_
  refine x_sub [] rfl ?_
  exact xs_callS mJ7_fill_53178 [.ref 7, .int (0 : Int32)] [] 2 _ rfl dX2_startAnew_20 ml_X2_57 qJ7_fill_53178 rfl ⟨Nat.le_of_ble_eq_true rfl, Nat.le_of_ble_eq_true rfl⟩ ⟨rfl, rfl⟩ (Nat.le_of_ble_eq_true rfl) (Nat.le_of_ble_eq_true rfl) (K)
theorem bX2_startAnew_23 {I : Nat → Nat → Int32} {L : Nat → Int64} {Q : Option Value → (Nat → Nat → Int32) → (Nat → Int64) → Prop}   (K : Q none I L) : XS mX2_startAnew 23 [] [] I L Q := by
  exact xs_end dX2_startAnew_23 rfl K
theorem bX2_putLink_0 {I : Nat → Nat → Int32} {L : Nat → Int64} {Q : Option Value → (Nat → Nat → Int32) → (Nat → Int64) → Prop} {v1 : Int32} {v2 : Int32} {v3 : Int32} {v4 : Int32}  (K : XS mX2_linkBetween 0 [(0, .ref 1), (1, .int v1), (2, .int v2)] [] I L (fun r I' L' => XS mX2_putLink 6 [(0, .ref 1), (1, .int v1), (2, .int v2), (3, .int v3), (4, .int v4)] (r.toList ++ []) I' L' Q)) : XS mX2_putLink 0 [(0, .ref 1), (1, .int v1), (2, .int v2), (3, .int v3), (4, .int v4)] [] I L Q := by
  refine x_aload_n 0 dX2_putLink_0 rfl rfl ?_
  refine x_iload_n 1 dX2_putLink_1 rfl rfl ?_
  refine x_iload_n 2 dX2_putLink_2 rfl rfl ?_
  exact xs_callV mX2_linkBetween [.int v1, .int v2] [] 1 2 2 _ rfl dX2_putLink_3 ml_X2_63 qX2_linkBetween rfl ⟨Nat.le_of_ble_eq_true rfl, Nat.le_of_ble_eq_true rfl⟩ ⟨rfl, rfl⟩ (Nat.le_of_ble_eq_true rfl) sh_1 (by decide) rfl (Nat.le_of_ble_eq_true rfl) (K)
theorem bX2_putLink_6 {I : Nat → Nat → Int32} {L : Nat → Int64} {Q : Option Value → (Nat → Nat → Int32) → (Nat → Int64) → Prop} {v1 : Int32} {v2 : Int32} {v3 : Int32} {v4 : Int32} {s0 : Int32}  (K1 : (¬ s0 = (-1 : Int32)) → XS mX2_putLink 22 [(0, .ref 1), (3, .int v3), (4, .int v4), (5, .int s0)] [] I L Q) (K2 : (s0 = (-1 : Int32)) → XS mX2_putLink 14 [(0, .ref 1), (1, .int v1), (2, .int v2), (3, .int v3), (4, .int v4)] [] I L Q) : XS mX2_putLink 6 [(0, .ref 1), (1, .int v1), (2, .int v2), (3, .int v3), (4, .int v4)] [.int s0] I L Q := by
  refine x_istore [(0, .ref 1), (1, .int v1), (2, .int v2), (3, .int v3), (4, .int v4), (5, .int s0)] dX2_putLink_6 (Nat.le_of_ble_eq_true rfl) rfl ?_
  refine x_iload 5 dX2_putLink_8 rfl ?_
  refine x_iconst (v := (-1 : Int32)) dX2_putLink_10 (by decide) ?_
  exact x_icmp_ne 22 dX2_putLink_11 (by decide) (fun h => x_sub [0, 3, 4, 5] rfl (K1 h)) (fun h => x_sub [0, 1, 2, 3, 4] rfl (K2 h))
theorem bX2_putLink_14 {I : Nat → Nat → Int32} {L : Nat → Int64} {Q : Option Value → (Nat → Nat → Int32) → (Nat → Int64) → Prop} {v1 : Int32} {v2 : Int32} {v3 : Int32} {v4 : Int32}  (K : XS mX2_addLink 0 [(0, .ref 1), (1, .int v1), (2, .int v2)] [] I L (fun r I' L' => XS mX2_putLink 20 [(0, .ref 1), (3, .int v3), (4, .int v4)] (r.toList ++ []) I' L' Q)) : XS mX2_putLink 14 [(0, .ref 1), (1, .int v1), (2, .int v2), (3, .int v3), (4, .int v4)] [] I L Q := by
  refine x_aload_n 0 dX2_putLink_14 rfl rfl ?_
  refine x_iload_n 1 dX2_putLink_15 rfl rfl ?_
  refine x_iload_n 2 dX2_putLink_16 rfl rfl ?_
  refine x_sub [0, 3, 4] rfl ?_
  exact xs_callV mX2_addLink [.int v1, .int v2] [] 1 2 2 _ rfl dX2_putLink_17 ml_X2_66 qX2_addLink rfl ⟨Nat.le_of_ble_eq_true rfl, Nat.le_of_ble_eq_true rfl⟩ ⟨rfl, rfl⟩ (Nat.le_of_ble_eq_true rfl) sh_1 (by decide) rfl (Nat.le_of_ble_eq_true rfl) (K)
theorem bX2_putLink_20 {I : Nat → Nat → Int32} {L : Nat → Int64} {Q : Option Value → (Nat → Nat → Int32) → (Nat → Int64) → Prop} {v3 : Int32} {v4 : Int32} {s0 : Int32}  (K : XS mX2_putLink 22 [(0, .ref 1), (3, .int v3), (4, .int v4), (5, .int s0)] [] I L Q) : XS mX2_putLink 20 [(0, .ref 1), (3, .int v3), (4, .int v4)] [.int s0] I L Q := by
  refine x_istore [(0, .ref 1), (3, .int v3), (4, .int v4), (5, .int s0)] dX2_putLink_20 (Nat.le_of_ble_eq_true rfl) rfl ?_
  exact K
theorem bX2_putLink_22 {I : Nat → Nat → Int32} {L : Nat → Int64} {Q : Option Value → (Nat → Nat → Int32) → (Nat → Int64) → Prop} {v3 : Int32} {v4 : Int32} {v5 : Int32}  (K1 : (v5 = (-1 : Int32)) → XS mX2_putLink 45 [] [] I L Q) (K2 : (¬ v5 = (-1 : Int32)) → XS mX2_putLink 28 [(0, .ref 1), (3, .int v3), (4, .int v4), (5, .int v5)] [] I L Q) : XS mX2_putLink 22 [(0, .ref 1), (3, .int v3), (4, .int v4), (5, .int v5)] [] I L Q := by
  refine x_iload 3 dX2_putLink_22 rfl ?_
  refine x_iconst (v := (-1 : Int32)) dX2_putLink_24 (by decide) ?_
  exact x_icmp_eq 45 dX2_putLink_25 (by decide) (fun h => x_sub [] rfl (K1 h)) (fun h => K2 h)
theorem bX2_putLink_28 {I : Nat → Nat → Int32} {L : Nat → Int64} {Q : Option Value → (Nat → Nat → Int32) → (Nat → Int64) → Prop} {v3 : Int32} {v4 : Int32} {v5 : Int32} (hb1 : vp_in v5 14) (hb2 : vp_in v5 14) (K : XS mX2_putLink 45 [] [] (x_up (x_up I 256 (v5.toNatClampNeg) v3) 320 (v5.toNatClampNeg) v4) L Q) : XS mX2_putLink 28 [(0, .ref 1), (3, .int v3), (4, .int v4), (5, .int v5)] [] I L Q := by
  refine x_aload_n 0 dX2_putLink_28 rfl rfl ?_
  refine xs_getr dX2_putLink_29 fl_X2_28 sh_1 rfl rf_69 ?_
  refine x_iload 3 dX2_putLink_32 rfl ?_
  refine x_iload_n 1 dX2_putLink_34 rfl rfl ?_
  refine xs_iast 256 (v5.toNatClampNeg) dX2_putLink_35 sh_4 rfl rfl hb1 ?_
  refine x_aload_n 0 dX2_putLink_36 rfl rfl ?_
  refine xs_getr dX2_putLink_37 fl_X2_31 sh_1 rfl rf_70 ?_
  refine x_iload 3 dX2_putLink_40 rfl ?_
  refine x_iload 2 dX2_putLink_42 rfl ?_
  refine xs_iast 320 (v5.toNatClampNeg) dX2_putLink_44 sh_5 rfl rfl hb2 ?_
  exact x_sub [] rfl (K)
theorem bX2_putLink_45 {I : Nat → Nat → Int32} {L : Nat → Int64} {Q : Option Value → (Nat → Nat → Int32) → (Nat → Int64) → Prop}   (K : Q none I L) : XS mX2_putLink 45 [] [] I L Q := by
  exact xs_end dX2_putLink_45 rfl K
theorem bX2_addLink_0 {I : Nat → Nat → Int32} {L : Nat → Int64} {Q : Option Value → (Nat → Nat → Int32) → (Nat → Int64) → Prop} {v1 : Int32} {v2 : Int32}  (K1 : ((I 65 0) < (14 : Int32)) → XS mX2_addLink 11 [(0, .ref 1), (1, .int v1), (2, .int v2)] [] I L Q) (K2 : (¬ (I 65 0) < (14 : Int32)) → XS mX2_addLink 9 [] [] I L Q) : XS mX2_addLink 0 [(0, .ref 1), (1, .int v1), (2, .int v2)] [] I L Q := by
  refine x_aload_n 0 dX2_addLink_0 rfl rfl ?_
  refine xs_geti 65 dX2_addLink_1 fl_X2_15 sh_1 rfl rfl ?_
  refine x_bipush (v := (14 : Int32)) dX2_addLink_4 (by decide) ?_
  exact x_icmp_lt 11 dX2_addLink_6 (by decide) (fun h => K1 h) (fun h => x_sub [] rfl (K2 h))
theorem bX2_addLink_9 {I : Nat → Nat → Int32} {L : Nat → Int64} {Q : Option Value → (Nat → Nat → Int32) → (Nat → Int64) → Prop}   (K : Q (some (.int (-1 : Int32))) I L) : XS mX2_addLink 9 [] [] I L Q := by
  refine x_iconst (v := (-1 : Int32)) dX2_addLink_9 (by decide) ?_
  exact xs_iret dX2_addLink_10 rfl rfl K
theorem bX2_addLink_11 {I : Nat → Nat → Int32} {L : Nat → Int64} {Q : Option Value → (Nat → Nat → Int32) → (Nat → Int64) → Prop} {v1 : Int32} {v2 : Int32} (hb1 : vp_in (I 65 0) 14) (hb2 : vp_in (I 65 0) 14) (K : XS mX2_addLink 53 [(0, .ref 1), (3, .int (I 65 0)), (4, .int (0 : Int32))] [] (x_up (x_up (x_up I 128 ((I 65 0).toNatClampNeg) (if v2 < v1 then v2 else v1)) 192 ((I 65 0).toNatClampNeg) (if v1 < v2 then v2 else v1)) 66 0 (((x_up (x_up I 128 ((I 65 0).toNatClampNeg) (if v2 < v1 then v2 else v1)) 192 ((I 65 0).toNatClampNeg) (if v1 < v2 then v2 else v1)) 66 0) ||| ((1 : Int32) <<< ((I 65 0) &&& 31)))) L Q) : XS mX2_addLink 11 [(0, .ref 1), (1, .int v1), (2, .int v2)] [] I L Q := by
  refine x_aload_n 0 dX2_addLink_11 rfl rfl ?_
  refine xs_geti 65 dX2_addLink_12 fl_X2_15 sh_1 rfl rfl ?_
  refine x_istore_n [(0, .ref 1), (1, .int v1), (2, .int v2), (3, .int (I 65 0))] dX2_addLink_15 rfl (Nat.le_of_ble_eq_true rfl) rfl ?_
  refine x_aload_n 0 dX2_addLink_16 rfl rfl ?_
  refine xs_getr dX2_addLink_17 fl_X2_21 sh_1 rfl rf_67 ?_
  refine x_iload_n 3 dX2_addLink_20 rfl rfl ?_
  refine x_iload_n 1 dX2_addLink_21 rfl rfl ?_
  refine x_iload_n 2 dX2_addLink_22 rfl rfl ?_
  refine x_mathMin dX2_addLink_23 ml_X2_40 qm_min.1 qm_min.2.1 qm_min.2.2 (Nat.le_of_ble_eq_true rfl) (Nat.le_of_ble_eq_true rfl) ?_
  refine xs_iast 128 ((I 65 0).toNatClampNeg) dX2_addLink_26 sh_2 rfl rfl hb1 ?_
  refine x_aload_n 0 dX2_addLink_27 rfl rfl ?_
  refine xs_getr dX2_addLink_28 fl_X2_25 sh_1 rfl rf_68 ?_
  refine x_iload_n 3 dX2_addLink_31 rfl rfl ?_
  refine x_iload_n 1 dX2_addLink_32 rfl rfl ?_
  refine x_iload_n 2 dX2_addLink_33 rfl rfl ?_
  refine x_mathMax dX2_addLink_34 ml_X2_46 qm_max.1 qm_max.2.1 qm_max.2.2 (Nat.le_of_ble_eq_true rfl) (Nat.le_of_ble_eq_true rfl) ?_
  refine xs_iast 192 ((I 65 0).toNatClampNeg) dX2_addLink_37 sh_3 rfl rfl hb2 ?_
  refine x_aload_n 0 dX2_addLink_38 rfl rfl ?_
  refine x_dup dX2_addLink_39 rfl ?_
  refine xs_geti 66 dX2_addLink_40 fl_X2_18 sh_1 rfl rfl ?_
  refine x_iconst (v := (1 : Int32)) dX2_addLink_43 (by decide) ?_
  refine x_iload_n 3 dX2_addLink_44 rfl rfl ?_
  refine x_ishl dX2_addLink_45 ?_
  refine x_ior dX2_addLink_46 ?_
  refine xs_puti 66 dX2_addLink_47 fl_X2_18 sh_1 rfl rfl rfl ?_
  refine x_iconst (v := (0 : Int32)) dX2_addLink_50 (by decide) ?_
  refine x_istore [(0, .ref 1), (1, .int v1), (2, .int v2), (3, .int (I 65 0)), (4, .int (0 : Int32))] dX2_addLink_51 (Nat.le_of_ble_eq_true rfl) rfl ?_
  exact x_sub [0, 3, 4] rfl (K)
theorem bX2_addLink_53 {I : Nat → Nat → Int32} {L : Nat → Int64} {Q : Option Value → (Nat → Nat → Int32) → (Nat → Int64) → Prop} {v3 : Int32} {v4 : Int32}  (K1 : ((I 64 0) ≤ v4) → XS mX2_addLink 81 [(0, .ref 1), (3, .int v3)] [] I L Q) (K2 : (¬ (I 64 0) ≤ v4) → XS mX2_addLink 62 [(0, .ref 1), (3, .int v3), (4, .int v4)] [] I L Q) : XS mX2_addLink 53 [(0, .ref 1), (3, .int v3), (4, .int v4)] [] I L Q := by
  refine x_iload 2 dX2_addLink_53 rfl ?_
  refine x_aload_n 0 dX2_addLink_55 rfl rfl ?_
  refine xs_geti 64 dX2_addLink_56 fl_X2_9 sh_1 rfl rfl ?_
  exact x_icmp_ge 81 dX2_addLink_59 (by decide) (fun h => x_sub [0, 1] rfl (K1 h)) (fun h => K2 h)
theorem bX2_addLink_62 {I : Nat → Nat → Int32} {L : Nat → Int64} {Q : Option Value → (Nat → Nat → Int32) → (Nat → Int64) → Prop} {v3 : Int32} {v4 : Int32} (hb1 : vp_in v4 8) (hb2 : vp_in v4 8) (K : XS mX2_addLink 53 [(0, .ref 1), (3, .int v3), (4, .int (v4 + (1 : Int32)))] [] (x_up I 448 (v4.toNatClampNeg) ((I 448 (v4.toNatClampNeg)) ||| ((1 : Int32) <<< (v3 &&& 31)))) L Q) : XS mX2_addLink 62 [(0, .ref 1), (3, .int v3), (4, .int v4)] [] I L Q := by
  refine x_aload_n 0 dX2_addLink_62 rfl rfl ?_
  refine xs_getr dX2_addLink_63 fl_X2_37 sh_1 rfl rf_72 ?_
  refine x_iload 2 dX2_addLink_66 rfl ?_
  refine x_dup2 dX2_addLink_68 rfl rfl ?_
  refine xs_iald 448 (v4.toNatClampNeg) dX2_addLink_69 sh_7 rfl rfl hb1 ?_
  refine x_iconst (v := (1 : Int32)) dX2_addLink_70 (by decide) ?_
  refine x_iload_n 1 dX2_addLink_71 rfl rfl ?_
  refine x_ishl dX2_addLink_72 ?_
  refine x_ior dX2_addLink_73 ?_
  refine xs_iast 448 (v4.toNatClampNeg) dX2_addLink_74 sh_7 rfl rfl hb2 ?_
  refine x_iinc 2 (v4 + (1 : Int32)) [(0, .ref 1), (3, .int v3), (4, .int (v4 + (1 : Int32)))] dX2_addLink_75 rfl rfl (Nat.le_of_ble_eq_true rfl) rfl ?_
  exact x_goto 53 dX2_addLink_78 (by decide) (K)
theorem bX2_addLink_81 {I : Nat → Nat → Int32} {L : Nat → Int64} {Q : Option Value → (Nat → Nat → Int32) → (Nat → Int64) → Prop} {v3 : Int32}  (K : Q (some (.int v3)) (x_up I 65 0 ((I 65 0) + (1 : Int32))) L) : XS mX2_addLink 81 [(0, .ref 1), (3, .int v3)] [] I L Q := by
  refine x_aload_n 0 dX2_addLink_81 rfl rfl ?_
  refine x_dup dX2_addLink_82 rfl ?_
  refine xs_geti 65 dX2_addLink_83 fl_X2_15 sh_1 rfl rfl ?_
  refine x_iconst (v := (1 : Int32)) dX2_addLink_86 (by decide) ?_
  refine x_iadd dX2_addLink_87 ?_
  refine xs_puti 65 dX2_addLink_88 fl_X2_15 sh_1 rfl rfl rfl ?_
  refine x_iload_n 1 dX2_addLink_91 rfl rfl ?_
  exact xs_iret dX2_addLink_92 rfl rfl K
