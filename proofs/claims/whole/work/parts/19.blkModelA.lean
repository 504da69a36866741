/-! ===== blocks ===== -/
theorem bX10_in_0 {I : Nat → Nat → Int32} {L : Nat → Int64} {Q : Option Value → (Nat → Nat → Int32) → (Nat → Int64) → Prop} {v0 : Int32} {v1 : Int32} {v2 : Int32}  (K1 : (v0 < v1) → XS mX10_in 14 [] [] I L Q) (K2 : (¬ v0 < v1) → XS mX10_in 5 [(0, .int v0), (2, .int v2)] [] I L Q) : XS mX10_in 0 [(0, .int v0), (1, .int v1), (2, .int v2)] [] I L Q := by
  refine x_iload_n 0 dX10_in_0 rfl rfl ?_
  refine x_iload_n 1 dX10_in_1 rfl rfl ?_
  exact x_icmp_lt 14 dX10_in_2 (by decide) (fun h => x_sub [] rfl (K1 h)) (fun h => x_sub [0, 2] rfl (K2 h))
theorem bX10_in_5 {I : Nat → Nat → Int32} {L : Nat → Int64} {Q : Option Value → (Nat → Nat → Int32) → (Nat → Int64) → Prop} {v0 : Int32} {v2 : Int32}  (K1 : (v2 < v0) → XS mX10_in 14 [] [] I L Q) (K2 : (¬ v2 < v0) → XS mX10_in 10 [] [] I L Q) : XS mX10_in 5 [(0, .int v0), (2, .int v2)] [] I L Q := by
  refine x_iload_n 0 dX10_in_5 rfl rfl ?_
  refine x_iload_n 1 dX10_in_6 rfl rfl ?_
  exact x_icmp_gt 14 dX10_in_7 (by decide) (fun h => x_sub [] rfl (K1 h)) (fun h => x_sub [] rfl (K2 h))
theorem bX10_in_10 {I : Nat → Nat → Int32} {L : Nat → Int64} {Q : Option Value → (Nat → Nat → Int32) → (Nat → Int64) → Prop}   (K : XS mX10_in 15 [] [.int (1 : Int32)] I L Q) : XS mX10_in 10 [] [] I L Q := by
  refine x_iconst (v := (1 : Int32)) dX10_in_10 (by decide) ?_
  exact x_goto 15 dX10_in_11 (by decide) (K)
theorem bX10_in_14 {I : Nat → Nat → Int32} {L : Nat → Int64} {Q : Option Value → (Nat → Nat → Int32) → (Nat → Int64) → Prop}   (K : XS mX10_in 15 [] [.int (0 : Int32)] I L Q) : XS mX10_in 14 [] [] I L Q := by
  refine x_iconst (v := (0 : Int32)) dX10_in_14 (by decide) ?_
  exact K
theorem bX10_in_15 {I : Nat → Nat → Int32} {L : Nat → Int64} {Q : Option Value → (Nat → Nat → Int32) → (Nat → Int64) → Prop} {s0 : Int32} (hz1 : s0 = 0 ∨ s0 = 1) (K : Q (some (.int s0)) I L) : XS mX10_in 15 [] [.int s0] I L Q := by
  exact xs_iret dX10_in_15 rfl (x_nar _ hz1) K
theorem bX10_has_0 {I : Nat → Nat → Int32} {L : Nat → Int64} {Q : Option Value → (Nat → Nat → Int32) → (Nat → Int64) → Prop} {v0 : Int32} {v1 : Int32}  (K1 : (¬ ((v0 >>> (v1 &&& 31)) &&& (1 : Int32)) = (1 : Int32)) → XS mX10_has 13 [] [] I L Q) (K2 : (((v0 >>> (v1 &&& 31)) &&& (1 : Int32)) = (1 : Int32)) → XS mX10_has 9 [] [] I L Q) : XS mX10_has 0 [(0, .int v0), (1, .int v1)] [] I L Q := by
  refine x_iload_n 0 dX10_has_0 rfl rfl ?_
  refine x_iload_n 1 dX10_has_1 rfl rfl ?_
  refine x_ishr dX10_has_2 ?_
  refine x_iconst (v := (1 : Int32)) dX10_has_3 (by decide) ?_
  refine x_iand dX10_has_4 ?_
  refine x_iconst (v := (1 : Int32)) dX10_has_5 (by decide) ?_
  exact x_icmp_ne 13 dX10_has_6 (by decide) (fun h => x_sub [] rfl (K1 h)) (fun h => x_sub [] rfl (K2 h))
theorem bX10_has_9 {I : Nat → Nat → Int32} {L : Nat → Int64} {Q : Option Value → (Nat → Nat → Int32) → (Nat → Int64) → Prop}   (K : XS mX10_has 14 [] [.int (1 : Int32)] I L Q) : XS mX10_has 9 [] [] I L Q := by
  refine x_iconst (v := (1 : Int32)) dX10_has_9 (by decide) ?_
  exact x_goto 14 dX10_has_10 (by decide) (K)
theorem bX10_has_13 {I : Nat → Nat → Int32} {L : Nat → Int64} {Q : Option Value → (Nat → Nat → Int32) → (Nat → Int64) → Prop}   (K : XS mX10_has 14 [] [.int (0 : Int32)] I L Q) : XS mX10_has 13 [] [] I L Q := by
  refine x_iconst (v := (0 : Int32)) dX10_has_13 (by decide) ?_
  exact K
theorem bX10_has_14 {I : Nat → Nat → Int32} {L : Nat → Int64} {Q : Option Value → (Nat → Nat → Int32) → (Nat → Int64) → Prop} {s0 : Int32} (hz1 : s0 = 0 ∨ s0 = 1) (K : Q (some (.int s0)) I L) : XS mX10_has 14 [] [.int s0] I L Q := by
  exact xs_iret dX10_has_14 rfl (x_nar _ hz1) K
theorem bX10_ones_0 {I : Nat → Nat → Int32} {L : Nat → Int64} {Q : Option Value → (Nat → Nat → Int32) → (Nat → Int64) → Prop} {v0 : Int32}  (K : XS mX10_ones 4 [(1, .int (0 : Int32)), (2, .int v0)] [] I L Q) : XS mX10_ones 0 [(0, .int v0)] [] I L Q := by
  refine x_iconst (v := (0 : Int32)) dX10_ones_0 (by decide) ?_
  refine x_istore_n [(0, .int v0), (1, .int (0 : Int32))] dX10_ones_1 rfl (Nat.le_of_ble_eq_true rfl) rfl ?_
  refine x_iload_n 0 dX10_ones_2 rfl rfl ?_
  refine x_istore_n [(0, .int v0), (1, .int (0 : Int32)), (2, .int v0)] dX10_ones_3 rfl (Nat.le_of_ble_eq_true rfl) rfl ?_
  exact x_sub [1, 2] rfl (K)
theorem bX10_ones_4 {I : Nat → Nat → Int32} {L : Nat → Int64} {Q : Option Value → (Nat → Nat → Int32) → (Nat → Int64) → Prop} {v1 : Int32} {v2 : Int32}  (K1 : (v2 ≤ 0) → XS mX10_ones 20 [(1, .int v1)] [] I L Q) (K2 : (¬ v2 ≤ 0) → XS mX10_ones 8 [(1, .int v1), (2, .int v2)] [] I L Q) : XS mX10_ones 4 [(1, .int v1), (2, .int v2)] [] I L Q := by
  refine x_iload_n 1 dX10_ones_4 rfl rfl ?_
  exact x_if_le 20 dX10_ones_5 (by decide) (fun h => x_sub [0] rfl (K1 h)) (fun h => K2 h)
theorem bX10_ones_8 {I : Nat → Nat → Int32} {L : Nat → Int64} {Q : Option Value → (Nat → Nat → Int32) → (Nat → Int64) → Prop} {v1 : Int32} {v2 : Int32}  (K : XS mX10_ones 4 [(1, .int (v1 + (1 : Int32))), (2, .int (v2 &&& (v2 - (1 : Int32))))] [] I L Q) : XS mX10_ones 8 [(1, .int v1), (2, .int v2)] [] I L Q := by
  refine x_iinc 0 (v1 + (1 : Int32)) [(1, .int (v1 + (1 : Int32))), (2, .int v2)] dX10_ones_8 rfl rfl (Nat.le_of_ble_eq_true rfl) rfl ?_
  refine x_iload_n 1 dX10_ones_11 rfl rfl ?_
  refine x_iload_n 1 dX10_ones_12 rfl rfl ?_
  refine x_iconst (v := (1 : Int32)) dX10_ones_13 (by decide) ?_
  refine x_isub dX10_ones_14 ?_
  refine x_iand dX10_ones_15 ?_
  refine x_istore_n [(1, .int (v1 + (1 : Int32))), (2, .int (v2 &&& (v2 - (1 : Int32))))] dX10_ones_16 rfl (Nat.le_of_ble_eq_true rfl) rfl ?_
  exact x_goto 4 dX10_ones_17 (by decide) (K)
theorem bX10_ones_20 {I : Nat → Nat → Int32} {L : Nat → Int64} {Q : Option Value → (Nat → Nat → Int32) → (Nat → Int64) → Prop} {v1 : Int32}  (K : Q (some (.int v1)) I L) : XS mX10_ones 20 [(1, .int v1)] [] I L Q := by
  refine x_iload_n 0 dX10_ones_20 rfl rfl ?_
  exact xs_iret dX10_ones_21 rfl rfl K
theorem bX10_isNode_0 {I : Nat → Nat → Int32} {L : Nat → Int64} {Q : Option Value → (Nat → Nat → Int32) → (Nat → Int64) → Prop} {v1 : Int32}  (K : XS mX10_in 0 [(0, .int v1), (1, .int (0 : Int32)), (2, .int ((I 3136 0) - (1 : Int32)))] [] I L (fun r I' L' => XS mX10_isNode 11 [] (r.toList ++ []) I' L' Q)) : XS mX10_isNode 0 [(0, .ref 49), (1, .int v1)] [] I L Q := by
  refine x_iload_n 1 dX10_isNode_0 rfl rfl ?_
  refine x_iconst (v := (0 : Int32)) dX10_isNode_1 (by decide) ?_
  refine x_aload_n 0 dX10_isNode_2 rfl rfl ?_
  refine xs_geti 3136 dX10_isNode_3 fl_X10_7 sh_49 rfl rfl ?_
  refine x_iconst (v := (1 : Int32)) dX10_isNode_6 (by decide) ?_
  refine x_isub dX10_isNode_7 ?_
  refine x_sub [] rfl ?_
  exact xs_callS mX10_in [.int v1, .int (0 : Int32), .int ((I 3136 0) - (1 : Int32))] [] 3 _ rfl dX10_isNode_8 ml_X10_86 qX10_in rfl ⟨Nat.le_of_ble_eq_true rfl, Nat.le_of_ble_eq_true rfl⟩ ⟨rfl, rfl⟩ (Nat.le_of_ble_eq_true rfl) (Nat.le_of_ble_eq_true rfl) (K)
theorem bX10_isNode_11 {I : Nat → Nat → Int32} {L : Nat → Int64} {Q : Option Value → (Nat → Nat → Int32) → (Nat → Int64) → Prop} {s0 : Int32} (hz1 : s0 = 0 ∨ s0 = 1) (K : Q (some (.int s0)) I L) : XS mX10_isNode 11 [] [.int s0] I L Q := by
  exact xs_iret dX10_isNode_11 rfl (x_nar _ hz1) K
theorem bX10_isLink_0 {I : Nat → Nat → Int32} {L : Nat → Int64} {Q : Option Value → (Nat → Nat → Int32) → (Nat → Int64) → Prop} {v1 : Int32}  (K : XS mX10_in 0 [(0, .int v1), (1, .int (0 : Int32)), (2, .int ((I 3137 0) - (1 : Int32)))] [] I L (fun r I' L' => XS mX10_isLink 11 [] (r.toList ++ []) I' L' Q)) : XS mX10_isLink 0 [(0, .ref 49), (1, .int v1)] [] I L Q := by
  refine x_iload_n 1 dX10_isLink_0 rfl rfl ?_
  refine x_iconst (v := (0 : Int32)) dX10_isLink_1 (by decide) ?_
  refine x_aload_n 0 dX10_isLink_2 rfl rfl ?_
  refine xs_geti 3137 dX10_isLink_3 fl_X10_90 sh_49 rfl rfl ?_
  refine x_iconst (v := (1 : Int32)) dX10_isLink_6 (by decide) ?_
  refine x_isub dX10_isLink_7 ?_
  refine x_sub [] rfl ?_
  exact xs_callS mX10_in [.int v1, .int (0 : Int32), .int ((I 3137 0) - (1 : Int32))] [] 3 _ rfl dX10_isLink_8 ml_X10_86 qX10_in rfl ⟨Nat.le_of_ble_eq_true rfl, Nat.le_of_ble_eq_true rfl⟩ ⟨rfl, rfl⟩ (Nat.le_of_ble_eq_true rfl) (Nat.le_of_ble_eq_true rfl) (K)
theorem bX10_isLink_11 {I : Nat → Nat → Int32} {L : Nat → Int64} {Q : Option Value → (Nat → Nat → Int32) → (Nat → Int64) → Prop} {s0 : Int32} (hz1 : s0 = 0 ∨ s0 = 1) (K : Q (some (.int s0)) I L) : XS mX10_isLink 11 [] [.int s0] I L Q := by
  exact xs_iret dX10_isLink_11 rfl (x_nar _ hz1) K
theorem bX10_linkOf_0 {I : Nat → Nat → Int32} {L : Nat → Int64} {Q : Option Value → (Nat → Nat → Int32) → (Nat → Int64) → Prop} {v1 : Int32} {v2 : Int32}  (K : XS mX10_linkOf 2 [(0, .ref 49), (1, .int v1), (2, .int v2), (3, .int (0 : Int32))] [] I L Q) : XS mX10_linkOf 0 [(0, .ref 49), (1, .int v1), (2, .int v2)] [] I L Q := by
  refine x_iconst (v := (0 : Int32)) dX10_linkOf_0 (by decide) ?_
  refine x_istore_n [(0, .ref 49), (1, .int v1), (2, .int v2), (3, .int (0 : Int32))] dX10_linkOf_1 rfl (Nat.le_of_ble_eq_true rfl) rfl ?_
  exact K
theorem bX10_linkOf_2 {I : Nat → Nat → Int32} {L : Nat → Int64} {Q : Option Value → (Nat → Nat → Int32) → (Nat → Int64) → Prop} {v1 : Int32} {v2 : Int32} {v3 : Int32}  (K1 : ((I 3137 0) ≤ v3) → XS mX10_linkOf 58 [] [] I L Q) (K2 : (¬ (I 3137 0) ≤ v3) → XS mX10_linkOf 10 [(0, .ref 49), (1, .int v1), (2, .int v2), (3, .int v3)] [] I L Q) : XS mX10_linkOf 2 [(0, .ref 49), (1, .int v1), (2, .int v2), (3, .int v3)] [] I L Q := by
  refine x_iload_n 3 dX10_linkOf_2 rfl rfl ?_
  refine x_aload_n 0 dX10_linkOf_3 rfl rfl ?_
  refine xs_geti 3137 dX10_linkOf_4 fl_X10_90 sh_49 rfl rfl ?_
  exact x_icmp_ge 58 dX10_linkOf_7 (by decide) (fun h => x_sub [] rfl (K1 h)) (fun h => K2 h)
theorem bX10_linkOf_10 {I : Nat → Nat → Int32} {L : Nat → Int64} {Q : Option Value → (Nat → Nat → Int32) → (Nat → Int64) → Prop} {v1 : Int32} {v2 : Int32} {v3 : Int32} (hb1 : vp_in v3 14) (K1 : (¬ (I 3200 (v3.toNatClampNeg)) = v1) → XS mX10_linkOf 30 [(0, .ref 49), (1, .int v1), (2, .int v2), (3, .int v3)] [] I L Q) (K2 : ((I 3200 (v3.toNatClampNeg)) = v1) → XS mX10_linkOf 20 [(0, .ref 49), (1, .int v1), (2, .int v2), (3, .int v3)] [] I L Q) : XS mX10_linkOf 10 [(0, .ref 49), (1, .int v1), (2, .int v2), (3, .int v3)] [] I L Q := by
  refine x_aload_n 0 dX10_linkOf_10 rfl rfl ?_
  refine xs_getr dX10_linkOf_11 fl_X10_13 sh_49 rfl rf_3138 ?_
  refine x_iload_n 3 dX10_linkOf_14 rfl rfl ?_
  refine xs_iald 3200 (v3.toNatClampNeg) dX10_linkOf_15 sh_50 rfl rfl hb1 ?_
  refine x_iload_n 1 dX10_linkOf_16 rfl rfl ?_
  exact x_icmp_ne 30 dX10_linkOf_17 (by decide) (fun h => K1 h) (fun h => K2 h)
theorem bX10_linkOf_20 {I : Nat → Nat → Int32} {L : Nat → Int64} {Q : Option Value → (Nat → Nat → Int32) → (Nat → Int64) → Prop} {v1 : Int32} {v2 : Int32} {v3 : Int32} (hb1 : vp_in v3 14) (K1 : ((I 3264 (v3.toNatClampNeg)) = v2) → XS mX10_linkOf 50 [(3, .int v3)] [] I L Q) (K2 : (¬ (I 3264 (v3.toNatClampNeg)) = v2) → XS mX10_linkOf 30 [(0, .ref 49), (1, .int v1), (2, .int v2), (3, .int v3)] [] I L Q) : XS mX10_linkOf 20 [(0, .ref 49), (1, .int v1), (2, .int v2), (3, .int v3)] [] I L Q := by
  refine x_aload_n 0 dX10_linkOf_20 rfl rfl ?_
  refine xs_getr dX10_linkOf_21 fl_X10_17 sh_49 rfl rf_3139 ?_
  refine x_iload_n 3 dX10_linkOf_24 rfl rfl ?_
  refine xs_iald 3264 (v3.toNatClampNeg) dX10_linkOf_25 sh_51 rfl rfl hb1 ?_
  refine x_iload_n 2 dX10_linkOf_26 rfl rfl ?_
  exact x_icmp_eq 50 dX10_linkOf_27 (by decide) (fun h => x_sub [3] rfl (K1 h)) (fun h => K2 h)
theorem bX10_linkOf_30 {I : Nat → Nat → Int32} {L : Nat → Int64} {Q : Option Value → (Nat → Nat → Int32) → (Nat → Int64) → Prop} {v1 : Int32} {v2 : Int32} {v3 : Int32} (hb1 : vp_in v3 14) (K1 : (¬ (I 3200 (v3.toNatClampNeg)) = v2) → XS mX10_linkOf 52 [(0, .ref 49), (1, .int v1), (2, .int v2), (3, .int v3)] [] I L Q) (K2 : ((I 3200 (v3.toNatClampNeg)) = v2) → XS mX10_linkOf 40 [(0, .ref 49), (1, .int v1), (2, .int v2), (3, .int v3)] [] I L Q) : XS mX10_linkOf 30 [(0, .ref 49), (1, .int v1), (2, .int v2), (3, .int v3)] [] I L Q := by
  refine x_aload_n 0 dX10_linkOf_30 rfl rfl ?_
  refine xs_getr dX10_linkOf_31 fl_X10_13 sh_49 rfl rf_3138 ?_
  refine x_iload_n 3 dX10_linkOf_34 rfl rfl ?_
  refine xs_iald 3200 (v3.toNatClampNeg) dX10_linkOf_35 sh_50 rfl rfl hb1 ?_
  refine x_iload_n 2 dX10_linkOf_36 rfl rfl ?_
  exact x_icmp_ne 52 dX10_linkOf_37 (by decide) (fun h => K1 h) (fun h => K2 h)
theorem bX10_linkOf_40 {I : Nat → Nat → Int32} {L : Nat → Int64} {Q : Option Value → (Nat → Nat → Int32) → (Nat → Int64) → Prop} {v1 : Int32} {v2 : Int32} {v3 : Int32} (hb1 : vp_in v3 14) (K1 : (¬ (I 3264 (v3.toNatClampNeg)) = v1) → XS mX10_linkOf 52 [(0, .ref 49), (1, .int v1), (2, .int v2), (3, .int v3)] [] I L Q) (K2 : ((I 3264 (v3.toNatClampNeg)) = v1) → XS mX10_linkOf 50 [(3, .int v3)] [] I L Q) : XS mX10_linkOf 40 [(0, .ref 49), (1, .int v1), (2, .int v2), (3, .int v3)] [] I L Q := by
  refine x_aload_n 0 dX10_linkOf_40 rfl rfl ?_
  refine xs_getr dX10_linkOf_41 fl_X10_17 sh_49 rfl rf_3139 ?_
  refine x_iload_n 3 dX10_linkOf_44 rfl rfl ?_
  refine xs_iald 3264 (v3.toNatClampNeg) dX10_linkOf_45 sh_51 rfl rfl hb1 ?_
  refine x_iload_n 1 dX10_linkOf_46 rfl rfl ?_
  exact x_icmp_ne 52 dX10_linkOf_47 (by decide) (fun h => K1 h) (fun h => x_sub [3] rfl (K2 h))
theorem bX10_linkOf_50 {I : Nat → Nat → Int32} {L : Nat → Int64} {Q : Option Value → (Nat → Nat → Int32) → (Nat → Int64) → Prop} {v3 : Int32}  (K : Q (some (.int v3)) I L) : XS mX10_linkOf 50 [(3, .int v3)] [] I L Q := by
  refine x_iload_n 0 dX10_linkOf_50 rfl rfl ?_
  exact xs_iret dX10_linkOf_51 rfl rfl K
theorem bX10_linkOf_52 {I : Nat → Nat → Int32} {L : Nat → Int64} {Q : Option Value → (Nat → Nat → Int32) → (Nat → Int64) → Prop} {v1 : Int32} {v2 : Int32} {v3 : Int32}  (K : XS mX10_linkOf 2 [(0, .ref 49), (1, .int v1), (2, .int v2), (3, .int (v3 + (1 : Int32)))] [] I L Q) : XS mX10_linkOf 52 [(0, .ref 49), (1, .int v1), (2, .int v2), (3, .int v3)] [] I L Q := by
  refine x_iinc 3 (v3 + (1 : Int32)) [(0, .ref 49), (1, .int v1), (2, .int v2), (3, .int (v3 + (1 : Int32)))] dX10_linkOf_52 rfl rfl (Nat.le_of_ble_eq_true rfl) rfl ?_
  exact x_goto 2 dX10_linkOf_55 (by decide) (K)
theorem bX10_linkOf_58 {I : Nat → Nat → Int32} {L : Nat → Int64} {Q : Option Value → (Nat → Nat → Int32) → (Nat → Int64) → Prop}   (K : Q (some (.int (-1 : Int32))) I L) : XS mX10_linkOf 58 [] [] I L Q := by
  refine x_iconst (v := (-1 : Int32)) dX10_linkOf_58 (by decide) ?_
  exact xs_iret dX10_linkOf_59 rfl rfl K
theorem bX10_otherEnd_0 {I : Nat → Nat → Int32} {L : Nat → Int64} {Q : Option Value → (Nat → Nat → Int32) → (Nat → Int64) → Prop} {v1 : Int32} {v2 : Int32} (hb1 : vp_in v1 14) (K1 : (¬ (I 3200 (v1.toNatClampNeg)) = v2) → XS mX10_otherEnd 19 [(0, .ref 49), (1, .int v1)] [] I L Q) (K2 : ((I 3200 (v1.toNatClampNeg)) = v2) → XS mX10_otherEnd 10 [(0, .ref 49), (1, .int v1)] [] I L Q) : XS mX10_otherEnd 0 [(0, .ref 49), (1, .int v1), (2, .int v2)] [] I L Q := by
  refine x_aload_n 0 dX10_otherEnd_0 rfl rfl ?_
  refine xs_getr dX10_otherEnd_1 fl_X10_13 sh_49 rfl rf_3138 ?_
  refine x_iload_n 1 dX10_otherEnd_4 rfl rfl ?_
  refine xs_iald 3200 (v1.toNatClampNeg) dX10_otherEnd_5 sh_50 rfl rfl hb1 ?_
  refine x_iload_n 2 dX10_otherEnd_6 rfl rfl ?_
  exact x_icmp_ne 19 dX10_otherEnd_7 (by decide) (fun h => x_sub [0, 1] rfl (K1 h)) (fun h => x_sub [0, 1] rfl (K2 h))
theorem bX10_otherEnd_10 {I : Nat → Nat → Int32} {L : Nat → Int64} {Q : Option Value → (Nat → Nat → Int32) → (Nat → Int64) → Prop} {v1 : Int32} (hb1 : vp_in v1 14) (K : XS mX10_otherEnd 25 [] [.int (I 3264 (v1.toNatClampNeg))] I L Q) : XS mX10_otherEnd 10 [(0, .ref 49), (1, .int v1)] [] I L Q := by
  refine x_aload_n 0 dX10_otherEnd_10 rfl rfl ?_
  refine xs_getr dX10_otherEnd_11 fl_X10_17 sh_49 rfl rf_3139 ?_
  refine x_iload_n 1 dX10_otherEnd_14 rfl rfl ?_
  refine xs_iald 3264 (v1.toNatClampNeg) dX10_otherEnd_15 sh_51 rfl rfl hb1 ?_
  exact x_goto 25 dX10_otherEnd_16 (by decide) (x_sub [] rfl (K))
theorem bX10_otherEnd_19 {I : Nat → Nat → Int32} {L : Nat → Int64} {Q : Option Value → (Nat → Nat → Int32) → (Nat → Int64) → Prop} {v1 : Int32} (hb1 : vp_in v1 14) (K : XS mX10_otherEnd 25 [] [.int (I 3200 (v1.toNatClampNeg))] I L Q) : XS mX10_otherEnd 19 [(0, .ref 49), (1, .int v1)] [] I L Q := by
  refine x_aload_n 0 dX10_otherEnd_19 rfl rfl ?_
  refine xs_getr dX10_otherEnd_20 fl_X10_13 sh_49 rfl rf_3138 ?_
  refine x_iload_n 1 dX10_otherEnd_23 rfl rfl ?_
  refine xs_iald 3200 (v1.toNatClampNeg) dX10_otherEnd_24 sh_50 rfl rfl hb1 ?_
  exact x_sub [] rfl (K)
theorem bX10_otherEnd_25 {I : Nat → Nat → Int32} {L : Nat → Int64} {Q : Option Value → (Nat → Nat → Int32) → (Nat → Int64) → Prop} {s0 : Int32}  (K : Q (some (.int s0)) I L) : XS mX10_otherEnd 25 [] [.int s0] I L Q := by
  exact xs_iret dX10_otherEnd_25 rfl rfl K
theorem bX10_length_0 {I : Nat → Nat → Int32} {L : Nat → Int64} {Q : Option Value → (Nat → Nat → Int32) → (Nat → Int64) → Prop} {v1 : Int32} {v2 : Int32}  (K1 : (¬ v2 = 0) → XS mX10_length 12 [(1, .int v1)] [.ref 53] I L Q) (K2 : (v2 = 0) → XS mX10_length 8 [(1, .int v1)] [.ref 53] I L Q) : XS mX10_length 0 [(0, .ref 49), (1, .int v1), (2, .int v2)] [] I L Q := by
  refine x_aload_n 0 dX10_length_0 rfl rfl ?_
  refine xs_getr dX10_length_1 fl_X10_23 sh_49 rfl rf_3141 ?_
  refine x_iload_n 2 dX10_length_4 rfl rfl ?_
  exact x_if_ne 12 dX10_length_5 (by decide) (fun h => x_sub [1] rfl (K1 h)) (fun h => x_sub [1] rfl (K2 h))
theorem bX10_length_8 {I : Nat → Nat → Int32} {L : Nat → Int64} {Q : Option Value → (Nat → Nat → Int32) → (Nat → Int64) → Prop} {v1 : Int32}  (K : XS mX10_length 14 [(1, .int v1)] [.int (0 : Int32), .ref 53] I L Q) : XS mX10_length 8 [(1, .int v1)] [.ref 53] I L Q := by
  refine x_iconst (v := (0 : Int32)) dX10_length_8 (by decide) ?_
  exact x_goto 14 dX10_length_9 (by decide) (K)
theorem bX10_length_12 {I : Nat → Nat → Int32} {L : Nat → Int64} {Q : Option Value → (Nat → Nat → Int32) → (Nat → Int64) → Prop} {v1 : Int32}  (K : XS mX10_length 14 [(1, .int v1)] [.int (14 : Int32), .ref 53] I L Q) : XS mX10_length 12 [(1, .int v1)] [.ref 53] I L Q := by
  refine x_bipush (v := (14 : Int32)) dX10_length_12 (by decide) ?_
  exact K
theorem bX10_length_14 {I : Nat → Nat → Int32} {L : Nat → Int64} {Q : Option Value → (Nat → Nat → Int32) → (Nat → Int64) → Prop} {v1 : Int32} {s1 : Int32} (hb1 : vp_in (s1 + v1) 37) (K : Q (some (.int (I 3392 ((s1 + v1).toNatClampNeg)))) I L) : XS mX10_length 14 [(1, .int v1)] [.int s1, .ref 53] I L Q := by
  refine x_iload_n 0 dX10_length_14 rfl rfl ?_
  refine x_iadd dX10_length_15 ?_
  refine xs_iald 3392 ((s1 + v1).toNatClampNeg) dX10_length_16 sh_53 rfl rfl hb1 ?_
  exact xs_iret dX10_length_17 rfl rfl K
theorem bX10_lays_0 {I : Nat → Nat → Int32} {L : Nat → Int64} {Q : Option Value → (Nat → Nat → Int32) → (Nat → Int64) → Prop} {v1 : Int32} {v2 : Int32}  (K : XS mX10_lays 2 [(0, .ref 49), (1, .int v1), (2, .int v2), (3, .int (0 : Int32))] [] I L Q) : XS mX10_lays 0 [(0, .ref 49), (1, .int v1), (2, .int v2)] [] I L Q := by
  refine x_iconst (v := (0 : Int32)) dX10_lays_0 (by decide) ?_
  refine x_istore_n [(0, .ref 49), (1, .int v1), (2, .int v2), (3, .int (0 : Int32))] dX10_lays_1 rfl (Nat.le_of_ble_eq_true rfl) rfl ?_
  exact K
theorem bX10_lays_2 {I : Nat → Nat → Int32} {L : Nat → Int64} {Q : Option Value → (Nat → Nat → Int32) → (Nat → Int64) → Prop} {v1 : Int32} {v2 : Int32} {v3 : Int32}  (K1 : ((64 : Int32) ≤ v3) → XS mX10_lays 38 [(0, .ref 49), (1, .int v1), (2, .int v2)] [] I L Q) (K2 : (¬ (64 : Int32) ≤ v3) → XS mX10_lays 8 [(0, .ref 49), (1, .int v1), (2, .int v2), (3, .int v3)] [] I L Q) : XS mX10_lays 2 [(0, .ref 49), (1, .int v1), (2, .int v2), (3, .int v3)] [] I L Q := by
  refine x_iload_n 3 dX10_lays_2 rfl rfl ?_
  refine x_bipush (v := (64 : Int32)) dX10_lays_3 (by decide) ?_
  exact x_icmp_ge 38 dX10_lays_5 (by decide) (fun h => x_sub [0, 1, 2] rfl (K1 h)) (fun h => K2 h)
theorem bX10_lays_8 {I : Nat → Nat → Int32} {L : Nat → Int64} {Q : Option Value → (Nat → Nat → Int32) → (Nat → Int64) → Prop} {v1 : Int32} {v2 : Int32} {v3 : Int32}  (K1 : (¬ (v3 / (8 : Int32)) = (v3 - v3 / (8 : Int32) * (8 : Int32))) → XS mX10_lays 28 [(0, .ref 49), (1, .int v1), (2, .int v2), (3, .int v3)] [.int v3, .ref 58] I L Q) (K2 : ((v3 / (8 : Int32)) = (v3 - v3 / (8 : Int32) * (8 : Int32))) → XS mX10_lays 24 [(0, .ref 49), (1, .int v1), (2, .int v2), (3, .int v3)] [.int v3, .ref 58] I L Q) : XS mX10_lays 8 [(0, .ref 49), (1, .int v1), (2, .int v2), (3, .int v3)] [] I L Q := by
  refine x_aload_n 0 dX10_lays_8 rfl rfl ?_
  refine xs_getr dX10_lays_9 fl_X10_38 sh_49 rfl rf_3150 ?_
  refine x_iload_n 3 dX10_lays_12 rfl rfl ?_
  refine x_iload_n 3 dX10_lays_13 rfl rfl ?_
  refine x_bipush (v := (8 : Int32)) dX10_lays_14 (by decide) ?_
  refine x_idiv dX10_lays_16 (by decide) ?_
  refine x_iload_n 3 dX10_lays_17 rfl rfl ?_
  refine x_bipush (v := (8 : Int32)) dX10_lays_18 (by decide) ?_
  refine x_irem dX10_lays_20 (by decide) ?_
  exact x_icmp_ne 28 dX10_lays_21 (by decide) (fun h => K1 h) (fun h => K2 h)
theorem bX10_lays_24 {I : Nat → Nat → Int32} {L : Nat → Int64} {Q : Option Value → (Nat → Nat → Int32) → (Nat → Int64) → Prop} {v1 : Int32} {v2 : Int32} {v3 : Int32} {s1 : Int32}  (K : XS mX10_lays 31 [(0, .ref 49), (1, .int v1), (2, .int v2), (3, .int v3)] [.int (0 : Int32), .int s1, .ref 58] I L Q) : XS mX10_lays 24 [(0, .ref 49), (1, .int v1), (2, .int v2), (3, .int v3)] [.int s1, .ref 58] I L Q := by
  refine x_iconst (v := (0 : Int32)) dX10_lays_24 (by decide) ?_
  exact x_goto 31 dX10_lays_25 (by decide) (K)
theorem bX10_lays_28 {I : Nat → Nat → Int32} {L : Nat → Int64} {Q : Option Value → (Nat → Nat → Int32) → (Nat → Int64) → Prop} {v1 : Int32} {v2 : Int32} {v3 : Int32} {s1 : Int32}  (K : XS mX10_lays 31 [(0, .ref 49), (1, .int v1), (2, .int v2), (3, .int v3)] [.int (9999 : Int32), .int s1, .ref 58] I L Q) : XS mX10_lays 28 [(0, .ref 49), (1, .int v1), (2, .int v2), (3, .int v3)] [.int s1, .ref 58] I L Q := by
  refine x_sipush (v := (9999 : Int32)) dX10_lays_28 (by decide) ?_
  exact K
theorem bX10_lays_31 {I : Nat → Nat → Int32} {L : Nat → Int64} {Q : Option Value → (Nat → Nat → Int32) → (Nat → Int64) → Prop} {v1 : Int32} {v2 : Int32} {v3 : Int32} {s1 : Int32} {s2 : Int32} (hb1 : vp_in s1 64) (K : XS mX10_lays 2 [(0, .ref 49), (1, .int v1), (2, .int v2), (3, .int (v3 + (1 : Int32)))] [] (x_up I 3712 (s1.toNatClampNeg) s2) L Q) : XS mX10_lays 31 [(0, .ref 49), (1, .int v1), (2, .int v2), (3, .int v3)] [.int s2, .int s1, .ref 58] I L Q := by
  refine xs_iast 3712 (s1.toNatClampNeg) dX10_lays_31 sh_58 rfl rfl hb1 ?_
  refine x_iinc 3 (v3 + (1 : Int32)) [(0, .ref 49), (1, .int v1), (2, .int v2), (3, .int (v3 + (1 : Int32)))] dX10_lays_32 rfl rfl (Nat.le_of_ble_eq_true rfl) rfl ?_
  exact x_goto 2 dX10_lays_35 (by decide) (K)
theorem bX10_lays_38 {I : Nat → Nat → Int32} {L : Nat → Int64} {Q : Option Value → (Nat → Nat → Int32) → (Nat → Int64) → Prop} {v1 : Int32} {v2 : Int32}  (K : XS mX10_lays 40 [(0, .ref 49), (1, .int v1), (2, .int v2), (3, .int (0 : Int32))] [] I L Q) : XS mX10_lays 38 [(0, .ref 49), (1, .int v1), (2, .int v2)] [] I L Q := by
  refine x_iconst (v := (0 : Int32)) dX10_lays_38 (by decide) ?_
  refine x_istore_n [(0, .ref 49), (1, .int v1), (2, .int v2), (3, .int (0 : Int32))] dX10_lays_39 rfl (Nat.le_of_ble_eq_true rfl) rfl ?_
  exact K
theorem bX10_lays_40 {I : Nat → Nat → Int32} {L : Nat → Int64} {Q : Option Value → (Nat → Nat → Int32) → (Nat → Int64) → Prop} {v1 : Int32} {v2 : Int32} {v3 : Int32}  (K1 : ((I 3137 0) ≤ v3) → XS mX10_lays 116 [(0, .ref 49)] [] I L Q) (K2 : (¬ (I 3137 0) ≤ v3) → XS mX10_lays 48 [(0, .ref 49), (1, .int v1), (2, .int v2), (3, .int v3)] [] I L Q) : XS mX10_lays 40 [(0, .ref 49), (1, .int v1), (2, .int v2), (3, .int v3)] [] I L Q := by
  refine x_iload_n 3 dX10_lays_40 rfl rfl ?_
  refine x_aload_n 0 dX10_lays_41 rfl rfl ?_
  refine xs_geti 3137 dX10_lays_42 fl_X10_90 sh_49 rfl rfl ?_
  exact x_icmp_ge 116 dX10_lays_45 (by decide) (fun h => x_sub [0] rfl (K1 h)) (fun h => K2 h)
theorem bX10_lays_48 {I : Nat → Nat → Int32} {L : Nat → Int64} {Q : Option Value → (Nat → Nat → Int32) → (Nat → Int64) → Prop} {v1 : Int32} {v2 : Int32} {v3 : Int32}  (K : XS mX10_has 0 [(0, .int v2), (1, .int v3)] [] I L (fun r I' L' => XS mX10_lays 53 [(0, .ref 49), (1, .int v1), (2, .int v2), (3, .int v3)] (r.toList ++ []) I' L' Q)) : XS mX10_lays 48 [(0, .ref 49), (1, .int v1), (2, .int v2), (3, .int v3)] [] I L Q := by
  refine x_iload_n 2 dX10_lays_48 rfl rfl ?_
  refine x_iload_n 3 dX10_lays_49 rfl rfl ?_
  exact xs_callS mX10_has [.int v2, .int v3] [] 2 _ rfl dX10_lays_50 ml_X10_93 qX10_has rfl ⟨Nat.le_of_ble_eq_true rfl, Nat.le_of_ble_eq_true rfl⟩ ⟨rfl, rfl⟩ (Nat.le_of_ble_eq_true rfl) (Nat.le_of_ble_eq_true rfl) (K)
theorem bX10_lays_53 {I : Nat → Nat → Int32} {L : Nat → Int64} {Q : Option Value → (Nat → Nat → Int32) → (Nat → Int64) → Prop} {v1 : Int32} {v2 : Int32} {v3 : Int32} {s0 : Int32}  (K1 : (s0 = 0) → XS mX10_lays 110 [(0, .ref 49), (1, .int v1), (2, .int v2), (3, .int v3)] [] I L Q) (K2 : (¬ s0 = 0) → XS mX10_lays 56 [(0, .ref 49), (1, .int v1), (2, .int v2), (3, .int v3)] [] I L Q) : XS mX10_lays 53 [(0, .ref 49), (1, .int v1), (2, .int v2), (3, .int v3)] [.int s0] I L Q := by
  exact x_if_eq 110 dX10_lays_53 (by decide) (fun h => K1 h) (fun h => K2 h)
theorem bX10_lays_56 {I : Nat → Nat → Int32} {L : Nat → Int64} {Q : Option Value → (Nat → Nat → Int32) → (Nat → Int64) → Prop} {v1 : Int32} {v2 : Int32} {v3 : Int32} (hb1 : vp_in v3 14) (hb2 : vp_in v3 14) (K : XS mX10_length 0 [(0, .ref 49), (1, .int v3), (2, .int v1)] [] I L (fun r I' L' => XS mX10_lays 82 [(0, .ref 49), (1, .int v1), (2, .int v2), (3, .int v3)] (r.toList ++ [.int (((8 : Int32) * (I 3200 (v3.toNatClampNeg))) + (I 3264 (v3.toNatClampNeg))), .ref 58]) I' L' Q)) : XS mX10_lays 56 [(0, .ref 49), (1, .int v1), (2, .int v2), (3, .int v3)] [] I L Q := by
  refine x_aload_n 0 dX10_lays_56 rfl rfl ?_
  refine xs_getr dX10_lays_57 fl_X10_38 sh_49 rfl rf_3150 ?_
  refine x_bipush (v := (8 : Int32)) dX10_lays_60 (by decide) ?_
  refine x_aload_n 0 dX10_lays_62 rfl rfl ?_
  refine xs_getr dX10_lays_63 fl_X10_13 sh_49 rfl rf_3138 ?_
  refine x_iload_n 3 dX10_lays_66 rfl rfl ?_
  refine xs_iald 3200 (v3.toNatClampNeg) dX10_lays_67 sh_50 rfl rfl hb1 ?_
  refine x_imul dX10_lays_68 ?_
  refine x_aload_n 0 dX10_lays_69 rfl rfl ?_
  refine xs_getr dX10_lays_70 fl_X10_17 sh_49 rfl rf_3139 ?_
  refine x_iload_n 3 dX10_lays_73 rfl rfl ?_
  refine xs_iald 3264 (v3.toNatClampNeg) dX10_lays_74 sh_51 rfl rfl hb2 ?_
  refine x_iadd dX10_lays_75 ?_
  refine x_aload_n 0 dX10_lays_76 rfl rfl ?_
  refine x_iload_n 3 dX10_lays_77 rfl rfl ?_
  refine x_iload_n 1 dX10_lays_78 rfl rfl ?_
  exact xs_callV mX10_length [.int v3, .int v1] [.int (((8 : Int32) * (I 3200 (v3.toNatClampNeg))) + (I 3264 (v3.toNatClampNeg))), .ref 58] 49 10 2 _ rfl dX10_lays_79 ml_X10_97 qX10_length rfl ⟨Nat.le_of_ble_eq_true rfl, Nat.le_of_ble_eq_true rfl⟩ ⟨rfl, rfl⟩ (Nat.le_of_ble_eq_true rfl) sh_49 (by decide) rfl (Nat.le_of_ble_eq_true rfl) (K)
theorem bX10_lays_82 {I : Nat → Nat → Int32} {L : Nat → Int64} {Q : Option Value → (Nat → Nat → Int32) → (Nat → Int64) → Prop} {v1 : Int32} {v2 : Int32} {v3 : Int32} {s1 : Int32} {s2 : Int32} (hb1 : vp_in s1 64) (hb2 : vp_in v3 14) (hb3 : vp_in v3 14) (K : XS mX10_length 0 [(0, .ref 49), (1, .int v3), (2, .int v1)] [] (x_up I 3712 (s1.toNatClampNeg) s2) L (fun r I' L' => XS mX10_lays 109 [(0, .ref 49), (1, .int v1), (2, .int v2), (3, .int v3)] (r.toList ++ [.int (((8 : Int32) * ((x_up I 3712 (s1.toNatClampNeg) s2) 3264 (v3.toNatClampNeg))) + ((x_up I 3712 (s1.toNatClampNeg) s2) 3200 (v3.toNatClampNeg))), .ref 58]) I' L' Q)) : XS mX10_lays 82 [(0, .ref 49), (1, .int v1), (2, .int v2), (3, .int v3)] [.int s2, .int s1, .ref 58] I L Q := by
  refine xs_iast 3712 (s1.toNatClampNeg) dX10_lays_82 sh_58 rfl rfl hb1 ?_
  refine x_aload_n 0 dX10_lays_83 rfl rfl ?_
  refine xs_getr dX10_lays_84 fl_X10_38 sh_49 rfl rf_3150 ?_
  refine x_bipush (v := (8 : Int32)) dX10_lays_87 (by decide) ?_
  refine x_aload_n 0 dX10_lays_89 rfl rfl ?_
  refine xs_getr dX10_lays_90 fl_X10_17 sh_49 rfl rf_3139 ?_
  refine x_iload_n 3 dX10_lays_93 rfl rfl ?_
  refine xs_iald 3264 (v3.toNatClampNeg) dX10_lays_94 sh_51 rfl rfl hb2 ?_
  refine x_imul dX10_lays_95 ?_
  refine x_aload_n 0 dX10_lays_96 rfl rfl ?_
  refine xs_getr dX10_lays_97 fl_X10_13 sh_49 rfl rf_3138 ?_
  refine x_iload_n 3 dX10_lays_100 rfl rfl ?_
  refine xs_iald 3200 (v3.toNatClampNeg) dX10_lays_101 sh_50 rfl rfl hb3 ?_
  refine x_iadd dX10_lays_102 ?_
  refine x_aload_n 0 dX10_lays_103 rfl rfl ?_
  refine x_iload_n 3 dX10_lays_104 rfl rfl ?_
  refine x_iload_n 1 dX10_lays_105 rfl rfl ?_
  exact xs_callV mX10_length [.int v3, .int v1] [.int (((8 : Int32) * ((x_up I 3712 (s1.toNatClampNeg) s2) 3264 (v3.toNatClampNeg))) + ((x_up I 3712 (s1.toNatClampNeg) s2) 3200 (v3.toNatClampNeg))), .ref 58] 49 10 2 _ rfl dX10_lays_106 ml_X10_97 qX10_length rfl ⟨Nat.le_of_ble_eq_true rfl, Nat.le_of_ble_eq_true rfl⟩ ⟨rfl, rfl⟩ (Nat.le_of_ble_eq_true rfl) sh_49 (by decide) rfl (Nat.le_of_ble_eq_true rfl) (K)
theorem bX10_lays_109 {I : Nat → Nat → Int32} {L : Nat → Int64} {Q : Option Value → (Nat → Nat → Int32) → (Nat → Int64) → Prop} {v1 : Int32} {v2 : Int32} {v3 : Int32} {s1 : Int32} {s2 : Int32} (hb1 : vp_in s1 64) (K : XS mX10_lays 110 [(0, .ref 49), (1, .int v1), (2, .int v2), (3, .int v3)] [] (x_up I 3712 (s1.toNatClampNeg) s2) L Q) : XS mX10_lays 109 [(0, .ref 49), (1, .int v1), (2, .int v2), (3, .int v3)] [.int s2, .int s1, .ref 58] I L Q := by
  refine xs_iast 3712 (s1.toNatClampNeg) dX10_lays_109 sh_58 rfl rfl hb1 ?_
  exact K
theorem bX10_lays_110 {I : Nat → Nat → Int32} {L : Nat → Int64} {Q : Option Value → (Nat → Nat → Int32) → (Nat → Int64) → Prop} {v1 : Int32} {v2 : Int32} {v3 : Int32}  (K : XS mX10_lays 40 [(0, .ref 49), (1, .int v1), (2, .int v2), (3, .int (v3 + (1 : Int32)))] [] I L Q) : XS mX10_lays 110 [(0, .ref 49), (1, .int v1), (2, .int v2), (3, .int v3)] [] I L Q := by
  refine x_iinc 3 (v3 + (1 : Int32)) [(0, .ref 49), (1, .int v1), (2, .int v2), (3, .int (v3 + (1 : Int32)))] dX10_lays_110 rfl rfl (Nat.le_of_ble_eq_true rfl) rfl ?_
  exact x_goto 40 dX10_lays_113 (by decide) (K)
theorem bX10_lays_116 {I : Nat → Nat → Int32} {L : Nat → Int64} {Q : Option Value → (Nat → Nat → Int32) → (Nat → Int64) → Prop}   (K : XS mX10_lays 118 [(0, .ref 49), (3, .int (0 : Int32))] [] I L Q) : XS mX10_lays 116 [(0, .ref 49)] [] I L Q := by
  refine x_iconst (v := (0 : Int32)) dX10_lays_116 (by decide) ?_
  refine x_istore_n [(0, .ref 49), (3, .int (0 : Int32))] dX10_lays_117 rfl (Nat.le_of_ble_eq_true rfl) rfl ?_
  exact K
theorem bX10_lays_118 {I : Nat → Nat → Int32} {L : Nat → Int64} {Q : Option Value → (Nat → Nat → Int32) → (Nat → Int64) → Prop} {v3 : Int32}  (K1 : ((I 3136 0) ≤ v3) → XS mX10_lays 212 [] [] I L Q) (K2 : (¬ (I 3136 0) ≤ v3) → XS mX10_lays 126 [(0, .ref 49), (3, .int v3)] [] I L Q) : XS mX10_lays 118 [(0, .ref 49), (3, .int v3)] [] I L Q := by
  refine x_iload_n 1 dX10_lays_118 rfl rfl ?_
  refine x_aload_n 0 dX10_lays_119 rfl rfl ?_
  refine xs_geti 3136 dX10_lays_120 fl_X10_7 sh_49 rfl rfl ?_
  exact x_icmp_ge 212 dX10_lays_123 (by decide) (fun h => x_sub [] rfl (K1 h)) (fun h => K2 h)
theorem bX10_lays_126 {I : Nat → Nat → Int32} {L : Nat → Int64} {Q : Option Value → (Nat → Nat → Int32) → (Nat → Int64) → Prop} {v3 : Int32}  (K : XS mX10_lays 129 [(0, .ref 49), (3, .int v3), (4, .int (0 : Int32))] [] I L Q) : XS mX10_lays 126 [(0, .ref 49), (3, .int v3)] [] I L Q := by
  refine x_iconst (v := (0 : Int32)) dX10_lays_126 (by decide) ?_
  refine x_istore [(0, .ref 49), (3, .int v3), (4, .int (0 : Int32))] dX10_lays_127 (Nat.le_of_ble_eq_true rfl) rfl ?_
  exact K
theorem bX10_lays_129 {I : Nat → Nat → Int32} {L : Nat → Int64} {Q : Option Value → (Nat → Nat → Int32) → (Nat → Int64) → Prop} {v3 : Int32} {v4 : Int32}  (K1 : ((64 : Int32) ≤ v4) → XS mX10_lays 206 [(0, .ref 49), (3, .int v3)] [] I L Q) (K2 : (¬ (64 : Int32) ≤ v4) → XS mX10_lays 136 [(0, .ref 49), (3, .int v3), (4, .int v4)] [] I L Q) : XS mX10_lays 129 [(0, .ref 49), (3, .int v3), (4, .int v4)] [] I L Q := by
  refine x_iload 2 dX10_lays_129 rfl ?_
  refine x_bipush (v := (64 : Int32)) dX10_lays_131 (by decide) ?_
  exact x_icmp_ge 206 dX10_lays_133 (by decide) (fun h => x_sub [0, 1] rfl (K1 h)) (fun h => K2 h)
theorem bX10_lays_136 {I : Nat → Nat → Int32} {L : Nat → Int64} {Q : Option Value → (Nat → Nat → Int32) → (Nat → Int64) → Prop} {v3 : Int32} {v4 : Int32} (hb1 : vp_in (((v4 / (8 : Int32)) * (8 : Int32)) + v3) 64) (hb2 : vp_in (((8 : Int32) * v3) + (v4 - v4 / (8 : Int32) * (8 : Int32))) 64) (hb3 : vp_in v4 64) (K1 : ((I 3712 (v4.toNatClampNeg)) ≤ ((I 3712 ((((v4 / (8 : Int32)) * (8 : Int32)) + v3).toNatClampNeg)) + (I 3712 ((((8 : Int32) * v3) + (v4 - v4 / (8 : Int32) * (8 : Int32))).toNatClampNeg)))) → XS mX10_lays 192 [(0, .ref 49), (3, .int v3), (4, .int v4)] [.int v4, .ref 58] I L Q) (K2 : (¬ (I 3712 (v4.toNatClampNeg)) ≤ ((I 3712 ((((v4 / (8 : Int32)) * (8 : Int32)) + v3).toNatClampNeg)) + (I 3712 ((((8 : Int32) * v3) + (v4 - v4 / (8 : Int32) * (8 : Int32))).toNatClampNeg)))) → XS mX10_lays 187 [(0, .ref 49), (3, .int v3), (4, .int v4), (5, .int ((I 3712 ((((v4 / (8 : Int32)) * (8 : Int32)) + v3).toNatClampNeg)) + (I 3712 ((((8 : Int32) * v3) + (v4 - v4 / (8 : Int32) * (8 : Int32))).toNatClampNeg))))] [.int v4, .ref 58] I L Q) : XS mX10_lays 136 [(0, .ref 49), (3, .int v3), (4, .int v4)] [] I L Q := by
  refine x_aload_n 0 dX10_lays_136 rfl rfl ?_
  refine xs_getr dX10_lays_137 fl_X10_38 sh_49 rfl rf_3150 ?_
  refine x_iload 2 dX10_lays_140 rfl ?_
  refine x_bipush (v := (8 : Int32)) dX10_lays_142 (by decide) ?_
  refine x_idiv dX10_lays_144 (by decide) ?_
  refine x_bipush (v := (8 : Int32)) dX10_lays_145 (by decide) ?_
  refine x_imul dX10_lays_147 ?_
  refine x_iload_n 1 dX10_lays_148 rfl rfl ?_
  refine x_iadd dX10_lays_149 ?_
  refine xs_iald 3712 ((((v4 / (8 : Int32)) * (8 : Int32)) + v3).toNatClampNeg) dX10_lays_150 sh_58 rfl rfl hb1 ?_
  refine x_aload_n 0 dX10_lays_151 rfl rfl ?_
  refine xs_getr dX10_lays_152 fl_X10_38 sh_49 rfl rf_3150 ?_
  refine x_bipush (v := (8 : Int32)) dX10_lays_155 (by decide) ?_
  refine x_iload_n 1 dX10_lays_157 rfl rfl ?_
  refine x_imul dX10_lays_158 ?_
  refine x_iload 2 dX10_lays_159 rfl ?_
  refine x_bipush (v := (8 : Int32)) dX10_lays_161 (by decide) ?_
  refine x_irem dX10_lays_163 (by decide) ?_
  refine x_iadd dX10_lays_164 ?_
  refine xs_iald 3712 ((((8 : Int32) * v3) + (v4 - v4 / (8 : Int32) * (8 : Int32))).toNatClampNeg) dX10_lays_165 sh_58 rfl rfl hb2 ?_
  refine x_iadd dX10_lays_166 ?_
  refine x_istore [(0, .ref 49), (3, .int v3), (4, .int v4), (5, .int ((I 3712 ((((v4 / (8 : Int32)) * (8 : Int32)) + v3).toNatClampNeg)) + (I 3712 ((((8 : Int32) * v3) + (v4 - v4 / (8 : Int32) * (8 : Int32))).toNatClampNeg))))] dX10_lays_167 (Nat.le_of_ble_eq_true rfl) rfl ?_
  refine x_aload_n 0 dX10_lays_169 rfl rfl ?_
  refine xs_getr dX10_lays_170 fl_X10_38 sh_49 rfl rf_3150 ?_
  refine x_iload 2 dX10_lays_173 rfl ?_
  refine x_iload 3 dX10_lays_175 rfl ?_
  refine x_aload_n 0 dX10_lays_177 rfl rfl ?_
  refine xs_getr dX10_lays_178 fl_X10_38 sh_49 rfl rf_3150 ?_
  refine x_iload 2 dX10_lays_181 rfl ?_
  refine xs_iald 3712 (v4.toNatClampNeg) dX10_lays_183 sh_58 rfl rfl hb3 ?_
  exact x_icmp_ge 192 dX10_lays_184 (by decide) (fun h => x_sub [0, 1, 2] rfl (K1 h)) (fun h => K2 h)
theorem bX10_lays_187 {I : Nat → Nat → Int32} {L : Nat → Int64} {Q : Option Value → (Nat → Nat → Int32) → (Nat → Int64) → Prop} {v3 : Int32} {v4 : Int32} {v5 : Int32} {s1 : Int32}  (K : XS mX10_lays 199 [(0, .ref 49), (3, .int v3), (4, .int v4)] [.int v5, .int s1, .ref 58] I L Q) : XS mX10_lays 187 [(0, .ref 49), (3, .int v3), (4, .int v4), (5, .int v5)] [.int s1, .ref 58] I L Q := by
  refine x_iload 3 dX10_lays_187 rfl ?_
  exact x_goto 199 dX10_lays_189 (by decide) (x_sub [0, 1, 2] rfl (K))
theorem bX10_lays_192 {I : Nat → Nat → Int32} {L : Nat → Int64} {Q : Option Value → (Nat → Nat → Int32) → (Nat → Int64) → Prop} {v3 : Int32} {v4 : Int32} {s1 : Int32} (hb1 : vp_in v4 64) (K : XS mX10_lays 199 [(0, .ref 49), (3, .int v3), (4, .int v4)] [.int (I 3712 (v4.toNatClampNeg)), .int s1, .ref 58] I L Q) : XS mX10_lays 192 [(0, .ref 49), (3, .int v3), (4, .int v4)] [.int s1, .ref 58] I L Q := by
  refine x_aload_n 0 dX10_lays_192 rfl rfl ?_
  refine xs_getr dX10_lays_193 fl_X10_38 sh_49 rfl rf_3150 ?_
  refine x_iload 2 dX10_lays_196 rfl ?_
  refine xs_iald 3712 (v4.toNatClampNeg) dX10_lays_198 sh_58 rfl rfl hb1 ?_
  exact K
theorem bX10_lays_199 {I : Nat → Nat → Int32} {L : Nat → Int64} {Q : Option Value → (Nat → Nat → Int32) → (Nat → Int64) → Prop} {v3 : Int32} {v4 : Int32} {s1 : Int32} {s2 : Int32} (hb1 : vp_in s1 64) (K : XS mX10_lays 129 [(0, .ref 49), (3, .int v3), (4, .int (v4 + (1 : Int32)))] [] (x_up I 3712 (s1.toNatClampNeg) s2) L Q) : XS mX10_lays 199 [(0, .ref 49), (3, .int v3), (4, .int v4)] [.int s2, .int s1, .ref 58] I L Q := by
  refine xs_iast 3712 (s1.toNatClampNeg) dX10_lays_199 sh_58 rfl rfl hb1 ?_
  refine x_iinc 2 (v4 + (1 : Int32)) [(0, .ref 49), (3, .int v3), (4, .int (v4 + (1 : Int32)))] dX10_lays_200 rfl rfl (Nat.le_of_ble_eq_true rfl) rfl ?_
  exact x_goto 129 dX10_lays_203 (by decide) (K)
theorem bX10_lays_206 {I : Nat → Nat → Int32} {L : Nat → Int64} {Q : Option Value → (Nat → Nat → Int32) → (Nat → Int64) → Prop} {v3 : Int32}  (K : XS mX10_lays 118 [(0, .ref 49), (3, .int (v3 + (1 : Int32)))] [] I L Q) : XS mX10_lays 206 [(0, .ref 49), (3, .int v3)] [] I L Q := by
  refine x_iinc 1 (v3 + (1 : Int32)) [(0, .ref 49), (3, .int (v3 + (1 : Int32)))] dX10_lays_206 rfl rfl (Nat.le_of_ble_eq_true rfl) rfl ?_
  exact x_goto 118 dX10_lays_209 (by decide) (K)
theorem bX10_lays_212 {I : Nat → Nat → Int32} {L : Nat → Int64} {Q : Option Value → (Nat → Nat → Int32) → (Nat → Int64) → Prop}   (K : Q none I L) : XS mX10_lays 212 [] [] I L Q := by
  exact xs_end dX10_lays_212 rfl K
theorem bX10_nextOf_0 {I : Nat → Nat → Int32} {L : Nat → Int64} {Q : Option Value → (Nat → Nat → Int32) → (Nat → Int64) → Prop} {v1 : Int32} {v2 : Int32} {v3 : Int32} {v4 : Int32}  (K : XS mX10_nextOf 3 [(0, .ref 49), (1, .int v1), (2, .int v2), (3, .int v3), (4, .int v4), (5, .int (0 : Int32))] [] I L Q) : XS mX10_nextOf 0 [(0, .ref 49), (1, .int v1), (2, .int v2), (3, .int v3), (4, .int v4)] [] I L Q := by
  refine x_iconst (v := (0 : Int32)) dX10_nextOf_0 (by decide) ?_
  refine x_istore [(0, .ref 49), (1, .int v1), (2, .int v2), (3, .int v3), (4, .int v4), (5, .int (0 : Int32))] dX10_nextOf_1 (Nat.le_of_ble_eq_true rfl) rfl ?_
  exact K
theorem bX10_nextOf_3 {I : Nat → Nat → Int32} {L : Nat → Int64} {Q : Option Value → (Nat → Nat → Int32) → (Nat → Int64) → Prop} {v1 : Int32} {v2 : Int32} {v3 : Int32} {v4 : Int32} {v5 : Int32}  (K1 : ((I 3136 0) ≤ v5) → XS mX10_nextOf 102 [] [] I L Q) (K2 : (¬ (I 3136 0) ≤ v5) → XS mX10_nextOf 12 [(0, .ref 49), (1, .int v1), (2, .int v2), (3, .int v3), (4, .int v4), (5, .int v5)] [] I L Q) : XS mX10_nextOf 3 [(0, .ref 49), (1, .int v1), (2, .int v2), (3, .int v3), (4, .int v4), (5, .int v5)] [] I L Q := by
  refine x_iload 5 dX10_nextOf_3 rfl ?_
  refine x_aload_n 0 dX10_nextOf_5 rfl rfl ?_
  refine xs_geti 3136 dX10_nextOf_6 fl_X10_7 sh_49 rfl rfl ?_
  exact x_icmp_ge 102 dX10_nextOf_9 (by decide) (fun h => x_sub [] rfl (K1 h)) (fun h => K2 h)
theorem bX10_nextOf_12 {I : Nat → Nat → Int32} {L : Nat → Int64} {Q : Option Value → (Nat → Nat → Int32) → (Nat → Int64) → Prop} {v1 : Int32} {v2 : Int32} {v3 : Int32} {v4 : Int32} {v5 : Int32}  (K1 : (v1 = v2) → XS mX10_nextOf 102 [] [] I L Q) (K2 : (¬ v1 = v2) → XS mX10_nextOf 17 [(0, .ref 49), (1, .int v1), (2, .int v2), (3, .int v3), (4, .int v4), (5, .int v5)] [] I L Q) : XS mX10_nextOf 12 [(0, .ref 49), (1, .int v1), (2, .int v2), (3, .int v3), (4, .int v4), (5, .int v5)] [] I L Q := by
  refine x_iload_n 1 dX10_nextOf_12 rfl rfl ?_
  refine x_iload_n 2 dX10_nextOf_13 rfl rfl ?_
  exact x_icmp_eq 102 dX10_nextOf_14 (by decide) (fun h => x_sub [] rfl (K1 h)) (fun h => K2 h)
theorem bX10_nextOf_17 {I : Nat → Nat → Int32} {L : Nat → Int64} {Q : Option Value → (Nat → Nat → Int32) → (Nat → Int64) → Prop} {v1 : Int32} {v2 : Int32} {v3 : Int32} {v4 : Int32} {v5 : Int32} (hb1 : vp_in (((8 : Int32) * v1) + v2) 64) (K1 : ((9999 : Int32) ≤ (I 3712 ((((8 : Int32) * v1) + v2).toNatClampNeg))) → XS mX10_nextOf 102 [] [] I L Q) (K2 : (¬ (9999 : Int32) ≤ (I 3712 ((((8 : Int32) * v1) + v2).toNatClampNeg))) → XS mX10_nextOf 34 [(0, .ref 49), (1, .int v1), (2, .int v2), (3, .int v3), (4, .int v4), (5, .int v5)] [] I L Q) : XS mX10_nextOf 17 [(0, .ref 49), (1, .int v1), (2, .int v2), (3, .int v3), (4, .int v4), (5, .int v5)] [] I L Q := by
  refine x_aload_n 0 dX10_nextOf_17 rfl rfl ?_
  refine xs_getr dX10_nextOf_18 fl_X10_38 sh_49 rfl rf_3150 ?_
  refine x_bipush (v := (8 : Int32)) dX10_nextOf_21 (by decide) ?_
  refine x_iload_n 1 dX10_nextOf_23 rfl rfl ?_
  refine x_imul dX10_nextOf_24 ?_
  refine x_iload_n 2 dX10_nextOf_25 rfl rfl ?_
  refine x_iadd dX10_nextOf_26 ?_
  refine xs_iald 3712 ((((8 : Int32) * v1) + v2).toNatClampNeg) dX10_nextOf_27 sh_58 rfl rfl hb1 ?_
  refine x_sipush (v := (9999 : Int32)) dX10_nextOf_28 (by decide) ?_
  exact x_icmp_ge 102 dX10_nextOf_31 (by decide) (fun h => x_sub [] rfl (K1 h)) (fun h => K2 h)
theorem bX10_nextOf_34 {I : Nat → Nat → Int32} {L : Nat → Int64} {Q : Option Value → (Nat → Nat → Int32) → (Nat → Int64) → Prop} {v1 : Int32} {v2 : Int32} {v3 : Int32} {v4 : Int32} {v5 : Int32}  (K : XS mX10_linkOf 0 [(0, .ref 49), (1, .int v1), (2, .int v5)] [] I L (fun r I' L' => XS mX10_nextOf 41 [(0, .ref 49), (1, .int v1), (2, .int v2), (3, .int v3), (4, .int v4), (5, .int v5)] (r.toList ++ []) I' L' Q)) : XS mX10_nextOf 34 [(0, .ref 49), (1, .int v1), (2, .int v2), (3, .int v3), (4, .int v4), (5, .int v5)] [] I L Q := by
  refine x_aload_n 0 dX10_nextOf_34 rfl rfl ?_
  refine x_iload_n 1 dX10_nextOf_35 rfl rfl ?_
  refine x_iload 5 dX10_nextOf_36 rfl ?_
  exact xs_callV mX10_linkOf [.int v1, .int v5] [] 49 10 2 _ rfl dX10_nextOf_38 ml_X10_101 qX10_linkOf rfl ⟨Nat.le_of_ble_eq_true rfl, Nat.le_of_ble_eq_true rfl⟩ ⟨rfl, rfl⟩ (Nat.le_of_ble_eq_true rfl) sh_49 (by decide) rfl (Nat.le_of_ble_eq_true rfl) (K)
theorem bX10_nextOf_41 {I : Nat → Nat → Int32} {L : Nat → Int64} {Q : Option Value → (Nat → Nat → Int32) → (Nat → Int64) → Prop} {v1 : Int32} {v2 : Int32} {v3 : Int32} {v4 : Int32} {v5 : Int32} {s0 : Int32}  (K1 : (s0 = (-1 : Int32)) → XS mX10_nextOf 96 [(0, .ref 49), (1, .int v1), (2, .int v2), (3, .int v3), (4, .int v4), (5, .int v5)] [] I L Q) (K2 : (¬ s0 = (-1 : Int32)) → XS mX10_nextOf 49 [(0, .ref 49), (1, .int v1), (2, .int v2), (3, .int v3), (4, .int v4), (5, .int v5), (6, .int s0)] [] I L Q) : XS mX10_nextOf 41 [(0, .ref 49), (1, .int v1), (2, .int v2), (3, .int v3), (4, .int v4), (5, .int v5)] [.int s0] I L Q := by
  refine x_istore [(0, .ref 49), (1, .int v1), (2, .int v2), (3, .int v3), (4, .int v4), (5, .int v5), (6, .int s0)] dX10_nextOf_41 (Nat.le_of_ble_eq_true rfl) rfl ?_
  refine x_iload 6 dX10_nextOf_43 rfl ?_
  refine x_iconst (v := (-1 : Int32)) dX10_nextOf_45 (by decide) ?_
  exact x_icmp_eq 96 dX10_nextOf_46 (by decide) (fun h => x_sub [0, 1, 2, 3, 4, 5] rfl (K1 h)) (fun h => K2 h)
theorem bX10_nextOf_49 {I : Nat → Nat → Int32} {L : Nat → Int64} {Q : Option Value → (Nat → Nat → Int32) → (Nat → Int64) → Prop} {v1 : Int32} {v2 : Int32} {v3 : Int32} {v4 : Int32} {v5 : Int32} {v6 : Int32}  (K : XS mX10_has 0 [(0, .int v4), (1, .int v6)] [] I L (fun r I' L' => XS mX10_nextOf 56 [(0, .ref 49), (1, .int v1), (2, .int v2), (3, .int v3), (4, .int v4), (5, .int v5), (6, .int v6)] (r.toList ++ []) I' L' Q)) : XS mX10_nextOf 49 [(0, .ref 49), (1, .int v1), (2, .int v2), (3, .int v3), (4, .int v4), (5, .int v5), (6, .int v6)] [] I L Q := by
  refine x_iload 4 dX10_nextOf_49 rfl ?_
  refine x_iload 6 dX10_nextOf_51 rfl ?_
  exact xs_callS mX10_has [.int v4, .int v6] [] 2 _ rfl dX10_nextOf_53 ml_X10_93 qX10_has rfl ⟨Nat.le_of_ble_eq_true rfl, Nat.le_of_ble_eq_true rfl⟩ ⟨rfl, rfl⟩ (Nat.le_of_ble_eq_true rfl) (Nat.le_of_ble_eq_true rfl) (K)
theorem bX10_nextOf_56 {I : Nat → Nat → Int32} {L : Nat → Int64} {Q : Option Value → (Nat → Nat → Int32) → (Nat → Int64) → Prop} {v1 : Int32} {v2 : Int32} {v3 : Int32} {v4 : Int32} {v5 : Int32} {v6 : Int32} {s0 : Int32}  (K1 : (s0 = 0) → XS mX10_nextOf 96 [(0, .ref 49), (1, .int v1), (2, .int v2), (3, .int v3), (4, .int v4), (5, .int v5)] [] I L Q) (K2 : (¬ s0 = 0) → XS mX10_nextOf 59 [(0, .ref 49), (1, .int v1), (2, .int v2), (3, .int v3), (4, .int v4), (5, .int v5), (6, .int v6)] [] I L Q) : XS mX10_nextOf 56 [(0, .ref 49), (1, .int v1), (2, .int v2), (3, .int v3), (4, .int v4), (5, .int v5), (6, .int v6)] [.int s0] I L Q := by
  exact x_if_eq 96 dX10_nextOf_56 (by decide) (fun h => x_sub [0, 1, 2, 3, 4, 5] rfl (K1 h)) (fun h => K2 h)
theorem bX10_nextOf_59 {I : Nat → Nat → Int32} {L : Nat → Int64} {Q : Option Value → (Nat → Nat → Int32) → (Nat → Int64) → Prop} {v1 : Int32} {v2 : Int32} {v3 : Int32} {v4 : Int32} {v5 : Int32} {v6 : Int32}  (K : XS mX10_length 0 [(0, .ref 49), (1, .int v6), (2, .int v3)] [] I L (fun r I' L' => XS mX10_nextOf 66 [(0, .ref 49), (1, .int v1), (2, .int v2), (3, .int v3), (4, .int v4), (5, .int v5)] (r.toList ++ []) I' L' Q)) : XS mX10_nextOf 59 [(0, .ref 49), (1, .int v1), (2, .int v2), (3, .int v3), (4, .int v4), (5, .int v5), (6, .int v6)] [] I L Q := by
  refine x_aload_n 0 dX10_nextOf_59 rfl rfl ?_
  refine x_iload 6 dX10_nextOf_60 rfl ?_
  refine x_iload_n 3 dX10_nextOf_62 rfl rfl ?_
  refine x_sub [0, 1, 2, 3, 4, 5] rfl ?_
  exact xs_callV mX10_length [.int v6, .int v3] [] 49 10 2 _ rfl dX10_nextOf_63 ml_X10_97 qX10_length rfl ⟨Nat.le_of_ble_eq_true rfl, Nat.le_of_ble_eq_true rfl⟩ ⟨rfl, rfl⟩ (Nat.le_of_ble_eq_true rfl) sh_49 (by decide) rfl (Nat.le_of_ble_eq_true rfl) (K)
theorem bX10_nextOf_66 {I : Nat → Nat → Int32} {L : Nat → Int64} {Q : Option Value → (Nat → Nat → Int32) → (Nat → Int64) → Prop} {v1 : Int32} {v2 : Int32} {v3 : Int32} {v4 : Int32} {v5 : Int32} {s0 : Int32} (hb1 : vp_in (((8 : Int32) * v5) + v2) 64) (hb2 : vp_in (((8 : Int32) * v1) + v2) 64) (K1 : (¬ (s0 + (I 3712 ((((8 : Int32) * v5) + v2).toNatClampNeg))) = (I 3712 ((((8 : Int32) * v1) + v2).toNatClampNeg))) → XS mX10_nextOf 96 [(0, .ref 49), (1, .int v1), (2, .int v2), (3, .int v3), (4, .int v4), (5, .int v5)] [] I L Q) (K2 : ((s0 + (I 3712 ((((8 : Int32) * v5) + v2).toNatClampNeg))) = (I 3712 ((((8 : Int32) * v1) + v2).toNatClampNeg))) → XS mX10_nextOf 93 [(5, .int v5)] [] I L Q) : XS mX10_nextOf 66 [(0, .ref 49), (1, .int v1), (2, .int v2), (3, .int v3), (4, .int v4), (5, .int v5)] [.int s0] I L Q := by
  refine x_aload_n 0 dX10_nextOf_66 rfl rfl ?_
  refine xs_getr dX10_nextOf_67 fl_X10_38 sh_49 rfl rf_3150 ?_
  refine x_bipush (v := (8 : Int32)) dX10_nextOf_70 (by decide) ?_
  refine x_iload 5 dX10_nextOf_72 rfl ?_
  refine x_imul dX10_nextOf_74 ?_
  refine x_iload_n 2 dX10_nextOf_75 rfl rfl ?_
  refine x_iadd dX10_nextOf_76 ?_
  refine xs_iald 3712 ((((8 : Int32) * v5) + v2).toNatClampNeg) dX10_nextOf_77 sh_58 rfl rfl hb1 ?_
  refine x_iadd dX10_nextOf_78 ?_
  refine x_aload_n 0 dX10_nextOf_79 rfl rfl ?_
  refine xs_getr dX10_nextOf_80 fl_X10_38 sh_49 rfl rf_3150 ?_
  refine x_bipush (v := (8 : Int32)) dX10_nextOf_83 (by decide) ?_
  refine x_iload_n 1 dX10_nextOf_85 rfl rfl ?_
  refine x_imul dX10_nextOf_86 ?_
  refine x_iload_n 2 dX10_nextOf_87 rfl rfl ?_
  refine x_iadd dX10_nextOf_88 ?_
  refine xs_iald 3712 ((((8 : Int32) * v1) + v2).toNatClampNeg) dX10_nextOf_89 sh_58 rfl rfl hb2 ?_
  exact x_icmp_ne 96 dX10_nextOf_90 (by decide) (fun h => K1 h) (fun h => x_sub [5] rfl (K2 h))
theorem bX10_nextOf_93 {I : Nat → Nat → Int32} {L : Nat → Int64} {Q : Option Value → (Nat → Nat → Int32) → (Nat → Int64) → Prop} {v5 : Int32}  (K : Q (some (.int v5)) I L) : XS mX10_nextOf 93 [(5, .int v5)] [] I L Q := by
  refine x_iload 0 dX10_nextOf_93 rfl ?_
  exact xs_iret dX10_nextOf_95 rfl rfl K
theorem bX10_nextOf_96 {I : Nat → Nat → Int32} {L : Nat → Int64} {Q : Option Value → (Nat → Nat → Int32) → (Nat → Int64) → Prop} {v1 : Int32} {v2 : Int32} {v3 : Int32} {v4 : Int32} {v5 : Int32}  (K : XS mX10_nextOf 3 [(0, .ref 49), (1, .int v1), (2, .int v2), (3, .int v3), (4, .int v4), (5, .int (v5 + (1 : Int32)))] [] I L Q) : XS mX10_nextOf 96 [(0, .ref 49), (1, .int v1), (2, .int v2), (3, .int v3), (4, .int v4), (5, .int v5)] [] I L Q := by
  refine x_iinc 5 (v5 + (1 : Int32)) [(0, .ref 49), (1, .int v1), (2, .int v2), (3, .int v3), (4, .int v4), (5, .int (v5 + (1 : Int32)))] dX10_nextOf_96 rfl rfl (Nat.le_of_ble_eq_true rfl) rfl ?_
  exact x_goto 3 dX10_nextOf_99 (by decide) (K)
theorem bX10_nextOf_102 {I : Nat → Nat → Int32} {L : Nat → Int64} {Q : Option Value → (Nat → Nat → Int32) → (Nat → Int64) → Prop}   (K : Q (some (.int (-1 : Int32))) I L) : XS mX10_nextOf 102 [] [] I L Q := by
  refine x_iconst (v := (-1 : Int32)) dX10_nextOf_102 (by decide) ?_
  exact xs_iret dX10_nextOf_103 rfl rfl K
theorem bX10_walks_0 {I : Nat → Nat → Int32} {L : Nat → Int64} {Q : Option Value → (Nat → Nat → Int32) → (Nat → Int64) → Prop} {v1 : Int32} {v2 : Int32} {v3 : Int32} {v4 : Int32}  (K : XS mX10_lays 0 [(0, .ref 49), (1, .int v3), (2, .int v4)] [] I L (fun r I' L' => XS mX10_walks 7 [(0, .ref 49), (1, .int v1), (2, .int v2), (3, .int v3), (4, .int v4)] (r.toList ++ []) I' L' Q)) : XS mX10_walks 0 [(0, .ref 49), (1, .int v1), (2, .int v2), (3, .int v3), (4, .int v4)] [] I L Q := by
  refine x_aload_n 0 dX10_walks_0 rfl rfl ?_
  refine x_iload_n 3 dX10_walks_1 rfl rfl ?_
  refine x_iload 4 dX10_walks_2 rfl ?_
  exact xs_callV mX10_lays [.int v3, .int v4] [] 49 10 2 _ rfl dX10_walks_4 ml_X10_104 qX10_lays rfl ⟨Nat.le_of_ble_eq_true rfl, Nat.le_of_ble_eq_true rfl⟩ ⟨rfl, rfl⟩ (Nat.le_of_ble_eq_true rfl) sh_49 (by decide) rfl (Nat.le_of_ble_eq_true rfl) (K)
theorem bX10_walks_7 {I : Nat → Nat → Int32} {L : Nat → Int64} {Q : Option Value → (Nat → Nat → Int32) → (Nat → Int64) → Prop} {v1 : Int32} {v2 : Int32} {v3 : Int32} {v4 : Int32}  (K : XS mX10_walks 22 [(0, .ref 49), (2, .int v2), (3, .int v3), (4, .int v4), (5, .int v1)] [] (x_up (x_up I 3776 0 v1) 3151 0 (1 : Int32)) L Q) : XS mX10_walks 7 [(0, .ref 49), (1, .int v1), (2, .int v2), (3, .int v3), (4, .int v4)] [] I L Q := by
  refine x_aload_n 0 dX10_walks_7 rfl rfl ?_
  refine xs_getr dX10_walks_8 fl_X10_41 sh_49 rfl rf_3152 ?_
  refine x_iconst (v := (0 : Int32)) dX10_walks_11 (by decide) ?_
  refine x_iload_n 1 dX10_walks_12 rfl rfl ?_
  refine xs_iast 3776 (0) dX10_walks_13 sh_59 rfl (by decide) (x_vpin (by decide)) ?_
  refine x_aload_n 0 dX10_walks_14 rfl rfl ?_
  refine x_iconst (v := (1 : Int32)) dX10_walks_15 (by decide) ?_
  refine xs_puti 3151 dX10_walks_16 fl_X10_108 sh_49 rfl rfl rfl ?_
  refine x_iload_n 1 dX10_walks_19 rfl rfl ?_
  refine x_istore [(0, .ref 49), (1, .int v1), (2, .int v2), (3, .int v3), (4, .int v4), (5, .int v1)] dX10_walks_20 (Nat.le_of_ble_eq_true rfl) rfl ?_
  exact x_sub [0, 2, 3, 4, 5] rfl (K)
theorem bX10_walks_22 {I : Nat → Nat → Int32} {L : Nat → Int64} {Q : Option Value → (Nat → Nat → Int32) → (Nat → Int64) → Prop} {v2 : Int32} {v3 : Int32} {v4 : Int32} {v5 : Int32}  (K1 : (v5 = v2) → XS mX10_walks 76 [(2, .int v2), (5, .int v5)] [] I L Q) (K2 : (¬ v5 = v2) → XS mX10_walks 28 [(0, .ref 49), (2, .int v2), (3, .int v3), (4, .int v4), (5, .int v5)] [] I L Q) : XS mX10_walks 22 [(0, .ref 49), (2, .int v2), (3, .int v3), (4, .int v4), (5, .int v5)] [] I L Q := by
  refine x_iload 4 dX10_walks_22 rfl ?_
  refine x_iload_n 1 dX10_walks_24 rfl rfl ?_
  exact x_icmp_eq 76 dX10_walks_25 (by decide) (fun h => x_sub [1, 4] rfl (K1 h)) (fun h => K2 h)
theorem bX10_walks_28 {I : Nat → Nat → Int32} {L : Nat → Int64} {Q : Option Value → (Nat → Nat → Int32) → (Nat → Int64) → Prop} {v2 : Int32} {v3 : Int32} {v4 : Int32} {v5 : Int32}  (K1 : (v5 = (-1 : Int32)) → XS mX10_walks 76 [(2, .int v2), (5, .int v5)] [] I L Q) (K2 : (¬ v5 = (-1 : Int32)) → XS mX10_walks 34 [(0, .ref 49), (2, .int v2), (3, .int v3), (4, .int v4), (5, .int v5)] [] I L Q) : XS mX10_walks 28 [(0, .ref 49), (2, .int v2), (3, .int v3), (4, .int v4), (5, .int v5)] [] I L Q := by
  refine x_iload 4 dX10_walks_28 rfl ?_
  refine x_iconst (v := (-1 : Int32)) dX10_walks_30 (by decide) ?_
  exact x_icmp_eq 76 dX10_walks_31 (by decide) (fun h => x_sub [1, 4] rfl (K1 h)) (fun h => K2 h)
theorem bX10_walks_34 {I : Nat → Nat → Int32} {L : Nat → Int64} {Q : Option Value → (Nat → Nat → Int32) → (Nat → Int64) → Prop} {v2 : Int32} {v3 : Int32} {v4 : Int32} {v5 : Int32}  (K : XS mX10_nextOf 0 [(0, .ref 49), (1, .int v5), (2, .int v2), (3, .int v3), (4, .int v4)] [] I L (fun r I' L' => XS mX10_walks 44 [(0, .ref 49), (2, .int v2), (3, .int v3), (4, .int v4)] (r.toList ++ []) I' L' Q)) : XS mX10_walks 34 [(0, .ref 49), (2, .int v2), (3, .int v3), (4, .int v4), (5, .int v5)] [] I L Q := by
  refine x_aload_n 0 dX10_walks_34 rfl rfl ?_
  refine x_iload 4 dX10_walks_35 rfl ?_
  refine x_iload_n 1 dX10_walks_37 rfl rfl ?_
  refine x_iload_n 2 dX10_walks_38 rfl rfl ?_
  refine x_iload 3 dX10_walks_39 rfl ?_
  refine x_sub [0, 1, 2, 3] rfl ?_
  exact xs_callV mX10_nextOf [.int v5, .int v2, .int v3, .int v4] [] 49 10 4 _ rfl dX10_walks_41 ml_X10_111 qX10_nextOf rfl ⟨Nat.le_of_ble_eq_true rfl, Nat.le_of_ble_eq_true rfl⟩ ⟨rfl, rfl⟩ (Nat.le_of_ble_eq_true rfl) sh_49 (by decide) rfl (Nat.le_of_ble_eq_true rfl) (K)
theorem bX10_walks_44 {I : Nat → Nat → Int32} {L : Nat → Int64} {Q : Option Value → (Nat → Nat → Int32) → (Nat → Int64) → Prop} {v2 : Int32} {v3 : Int32} {v4 : Int32} {s0 : Int32}  (K1 : (s0 = (-1 : Int32)) → XS mX10_walks 22 [(0, .ref 49), (2, .int v2), (3, .int v3), (4, .int v4), (5, .int s0)] [] I L Q) (K2 : (¬ s0 = (-1 : Int32)) → XS mX10_walks 52 [(0, .ref 49), (2, .int v2), (3, .int v3), (4, .int v4), (5, .int s0)] [] I L Q) : XS mX10_walks 44 [(0, .ref 49), (2, .int v2), (3, .int v3), (4, .int v4)] [.int s0] I L Q := by
  refine x_istore [(0, .ref 49), (2, .int v2), (3, .int v3), (4, .int v4), (5, .int s0)] dX10_walks_44 (Nat.le_of_ble_eq_true rfl) rfl ?_
  refine x_iload 4 dX10_walks_46 rfl ?_
  refine x_iconst (v := (-1 : Int32)) dX10_walks_48 (by decide) ?_
  exact x_icmp_eq 22 dX10_walks_49 (by decide) (fun h => K1 h) (fun h => K2 h)
theorem bX10_walks_52 {I : Nat → Nat → Int32} {L : Nat → Int64} {Q : Option Value → (Nat → Nat → Int32) → (Nat → Int64) → Prop} {v2 : Int32} {v3 : Int32} {v4 : Int32} {v5 : Int32} (hb1 : vp_in (I 3151 0) 8) (K : XS mX10_walks 22 [(0, .ref 49), (2, .int v2), (3, .int v3), (4, .int v4), (5, .int v5)] [] (x_up (x_up I 3776 ((I 3151 0).toNatClampNeg) v5) 3151 0 (((x_up I 3776 ((I 3151 0).toNatClampNeg) v5) 3151 0) + (1 : Int32))) L Q) : XS mX10_walks 52 [(0, .ref 49), (2, .int v2), (3, .int v3), (4, .int v4), (5, .int v5)] [] I L Q := by
  refine x_aload_n 0 dX10_walks_52 rfl rfl ?_
  refine xs_getr dX10_walks_53 fl_X10_41 sh_49 rfl rf_3152 ?_
  refine x_aload_n 0 dX10_walks_56 rfl rfl ?_
  refine xs_geti 3151 dX10_walks_57 fl_X10_108 sh_49 rfl rfl ?_
  refine x_iload 4 dX10_walks_60 rfl ?_
  refine xs_iast 3776 ((I 3151 0).toNatClampNeg) dX10_walks_62 sh_59 rfl rfl hb1 ?_
  refine x_aload_n 0 dX10_walks_63 rfl rfl ?_
  refine x_dup dX10_walks_64 rfl ?_
  refine xs_geti 3151 dX10_walks_65 fl_X10_108 sh_49 rfl rfl ?_
  refine x_iconst (v := (1 : Int32)) dX10_walks_68 (by decide) ?_
  refine x_iadd dX10_walks_69 ?_
  refine xs_puti 3151 dX10_walks_70 fl_X10_108 sh_49 rfl rfl rfl ?_
  exact x_goto 22 dX10_walks_73 (by decide) (K)
theorem bX10_walks_76 {I : Nat → Nat → Int32} {L : Nat → Int64} {Q : Option Value → (Nat → Nat → Int32) → (Nat → Int64) → Prop} {v2 : Int32} {v5 : Int32}  (K1 : (¬ v5 = v2) → XS mX10_walks 86 [] [] I L Q) (K2 : (v5 = v2) → XS mX10_walks 82 [] [] I L Q) : XS mX10_walks 76 [(2, .int v2), (5, .int v5)] [] I L Q := by
  refine x_iload 1 dX10_walks_76 rfl ?_
  refine x_iload_n 0 dX10_walks_78 rfl rfl ?_
  exact x_icmp_ne 86 dX10_walks_79 (by decide) (fun h => x_sub [] rfl (K1 h)) (fun h => x_sub [] rfl (K2 h))
theorem bX10_walks_82 {I : Nat → Nat → Int32} {L : Nat → Int64} {Q : Option Value → (Nat → Nat → Int32) → (Nat → Int64) → Prop}   (K : XS mX10_walks 87 [] [.int (1 : Int32)] I L Q) : XS mX10_walks 82 [] [] I L Q := by
  refine x_iconst (v := (1 : Int32)) dX10_walks_82 (by decide) ?_
  exact x_goto 87 dX10_walks_83 (by decide) (K)
theorem bX10_walks_86 {I : Nat → Nat → Int32} {L : Nat → Int64} {Q : Option Value → (Nat → Nat → Int32) → (Nat → Int64) → Prop}   (K : XS mX10_walks 87 [] [.int (0 : Int32)] I L Q) : XS mX10_walks 86 [] [] I L Q := by
  refine x_iconst (v := (0 : Int32)) dX10_walks_86 (by decide) ?_
  exact K
theorem bX10_walks_87 {I : Nat → Nat → Int32} {L : Nat → Int64} {Q : Option Value → (Nat → Nat → Int32) → (Nat → Int64) → Prop} {s0 : Int32} (hz1 : s0 = 0 ∨ s0 = 1) (K : Q (some (.int s0)) I L) : XS mX10_walks 87 [] [.int s0] I L Q := by
  exact xs_iret dX10_walks_87 rfl (x_nar _ hz1) K
theorem bX10_isOver_0 {I : Nat → Nat → Int32} {L : Nat → Int64} {Q : Option Value → (Nat → Nat → Int32) → (Nat → Int64) → Prop} {v1 : Int32}  (K : XS mX10_isOver 4 [(0, .ref 49), (1, .int v1), (2, .int (0 : Int32)), (3, .int (1 : Int32))] [] I L Q) : XS mX10_isOver 0 [(0, .ref 49), (1, .int v1)] [] I L Q := by
  refine x_iconst (v := (0 : Int32)) dX10_isOver_0 (by decide) ?_
  refine x_istore_n [(0, .ref 49), (1, .int v1), (2, .int (0 : Int32))] dX10_isOver_1 rfl (Nat.le_of_ble_eq_true rfl) rfl ?_
  refine x_iconst (v := (1 : Int32)) dX10_isOver_2 (by decide) ?_
  refine x_istore_n [(0, .ref 49), (1, .int v1), (2, .int (0 : Int32)), (3, .int (1 : Int32))] dX10_isOver_3 rfl (Nat.le_of_ble_eq_true rfl) rfl ?_
  exact K
theorem bX10_isOver_4 {I : Nat → Nat → Int32} {L : Nat → Int64} {Q : Option Value → (Nat → Nat → Int32) → (Nat → Int64) → Prop} {v1 : Int32} {v2 : Int32} {v3 : Int32}  (K1 : ((I 3151 0) ≤ v3) → XS mX10_isOver 50 [(2, .int v2)] [] I L Q) (K2 : (¬ (I 3151 0) ≤ v3) → XS mX10_isOver 12 [(0, .ref 49), (1, .int v1), (2, .int v2), (3, .int v3)] [] I L Q) : XS mX10_isOver 4 [(0, .ref 49), (1, .int v1), (2, .int v2), (3, .int v3)] [] I L Q := by
  refine x_iload_n 3 dX10_isOver_4 rfl rfl ?_
  refine x_aload_n 0 dX10_isOver_5 rfl rfl ?_
  refine xs_geti 3151 dX10_isOver_6 fl_X10_108 sh_49 rfl rfl ?_
  exact x_icmp_ge 50 dX10_isOver_9 (by decide) (fun h => x_sub [2] rfl (K1 h)) (fun h => K2 h)
theorem bX10_isOver_12 {I : Nat → Nat → Int32} {L : Nat → Int64} {Q : Option Value → (Nat → Nat → Int32) → (Nat → Int64) → Prop} {v1 : Int32} {v2 : Int32} {v3 : Int32}  (K1 : (¬ v2 = 0) → XS mX10_isOver 38 [(0, .ref 49), (1, .int v1), (3, .int v3)] [] I L Q) (K2 : (v2 = 0) → XS mX10_isOver 16 [(0, .ref 49), (1, .int v1), (3, .int v3)] [] I L Q) : XS mX10_isOver 12 [(0, .ref 49), (1, .int v1), (2, .int v2), (3, .int v3)] [] I L Q := by
  refine x_iload_n 2 dX10_isOver_12 rfl rfl ?_
  exact x_if_ne 38 dX10_isOver_13 (by decide) (fun h => x_sub [0, 1, 3] rfl (K1 h)) (fun h => x_sub [0, 1, 3] rfl (K2 h))
theorem bX10_isOver_16 {I : Nat → Nat → Int32} {L : Nat → Int64} {Q : Option Value → (Nat → Nat → Int32) → (Nat → Int64) → Prop} {v1 : Int32} {v3 : Int32} (hb1 : vp_in (v3 - (1 : Int32)) 8) (hb2 : vp_in v3 8) (K : XS mX10_linkOf 0 [(0, .ref 49), (1, .int (I 3776 ((v3 - (1 : Int32)).toNatClampNeg))), (2, .int (I 3776 (v3.toNatClampNeg)))] [] I L (fun r I' L' => XS mX10_isOver 34 [(0, .ref 49), (1, .int v1), (3, .int v3)] (r.toList ++ []) I' L' Q)) : XS mX10_isOver 16 [(0, .ref 49), (1, .int v1), (3, .int v3)] [] I L Q := by
  refine x_aload_n 0 dX10_isOver_16 rfl rfl ?_
  refine x_aload_n 0 dX10_isOver_17 rfl rfl ?_
  refine xs_getr dX10_isOver_18 fl_X10_41 sh_49 rfl rf_3152 ?_
  refine x_iload_n 2 dX10_isOver_21 rfl rfl ?_
  refine x_iconst (v := (1 : Int32)) dX10_isOver_22 (by decide) ?_
  refine x_isub dX10_isOver_23 ?_
  refine xs_iald 3776 ((v3 - (1 : Int32)).toNatClampNeg) dX10_isOver_24 sh_59 rfl rfl hb1 ?_
  refine x_aload_n 0 dX10_isOver_25 rfl rfl ?_
  refine xs_getr dX10_isOver_26 fl_X10_41 sh_49 rfl rf_3152 ?_
  refine x_iload_n 2 dX10_isOver_29 rfl rfl ?_
  refine xs_iald 3776 (v3.toNatClampNeg) dX10_isOver_30 sh_59 rfl rfl hb2 ?_
  exact xs_callV mX10_linkOf [.int (I 3776 ((v3 - (1 : Int32)).toNatClampNeg)), .int (I 3776 (v3.toNatClampNeg))] [] 49 10 2 _ rfl dX10_isOver_31 ml_X10_101 qX10_linkOf rfl ⟨Nat.le_of_ble_eq_true rfl, Nat.le_of_ble_eq_true rfl⟩ ⟨rfl, rfl⟩ (Nat.le_of_ble_eq_true rfl) sh_49 (by decide) rfl (Nat.le_of_ble_eq_true rfl) (K)
theorem bX10_isOver_34 {I : Nat → Nat → Int32} {L : Nat → Int64} {Q : Option Value → (Nat → Nat → Int32) → (Nat → Int64) → Prop} {v1 : Int32} {v3 : Int32} {s0 : Int32}  (K1 : (¬ s0 = v1) → XS mX10_isOver 42 [(0, .ref 49), (1, .int v1), (3, .int v3)] [] I L Q) (K2 : (s0 = v1) → XS mX10_isOver 38 [(0, .ref 49), (1, .int v1), (3, .int v3)] [] I L Q) : XS mX10_isOver 34 [(0, .ref 49), (1, .int v1), (3, .int v3)] [.int s0] I L Q := by
  refine x_iload_n 1 dX10_isOver_34 rfl rfl ?_
  exact x_icmp_ne 42 dX10_isOver_35 (by decide) (fun h => K1 h) (fun h => K2 h)
theorem bX10_isOver_38 {I : Nat → Nat → Int32} {L : Nat → Int64} {Q : Option Value → (Nat → Nat → Int32) → (Nat → Int64) → Prop} {v1 : Int32} {v3 : Int32}  (K : XS mX10_isOver 43 [(0, .ref 49), (1, .int v1), (3, .int v3)] [.int (1 : Int32)] I L Q) : XS mX10_isOver 38 [(0, .ref 49), (1, .int v1), (3, .int v3)] [] I L Q := by
  refine x_iconst (v := (1 : Int32)) dX10_isOver_38 (by decide) ?_
  exact x_goto 43 dX10_isOver_39 (by decide) (K)
theorem bX10_isOver_42 {I : Nat → Nat → Int32} {L : Nat → Int64} {Q : Option Value → (Nat → Nat → Int32) → (Nat → Int64) → Prop} {v1 : Int32} {v3 : Int32}  (K : XS mX10_isOver 43 [(0, .ref 49), (1, .int v1), (3, .int v3)] [.int (0 : Int32)] I L Q) : XS mX10_isOver 42 [(0, .ref 49), (1, .int v1), (3, .int v3)] [] I L Q := by
  refine x_iconst (v := (0 : Int32)) dX10_isOver_42 (by decide) ?_
  exact K
theorem bX10_isOver_43 {I : Nat → Nat → Int32} {L : Nat → Int64} {Q : Option Value → (Nat → Nat → Int32) → (Nat → Int64) → Prop} {v1 : Int32} {v3 : Int32} {s0 : Int32}  (K : XS mX10_isOver 4 [(0, .ref 49), (1, .int v1), (2, .int s0), (3, .int (v3 + (1 : Int32)))] [] I L Q) : XS mX10_isOver 43 [(0, .ref 49), (1, .int v1), (3, .int v3)] [.int s0] I L Q := by
  refine x_istore_n [(0, .ref 49), (1, .int v1), (2, .int s0), (3, .int v3)] dX10_isOver_43 rfl (Nat.le_of_ble_eq_true rfl) rfl ?_
  refine x_iinc 3 (v3 + (1 : Int32)) [(0, .ref 49), (1, .int v1), (2, .int s0), (3, .int (v3 + (1 : Int32)))] dX10_isOver_44 rfl rfl (Nat.le_of_ble_eq_true rfl) rfl ?_
  exact x_goto 4 dX10_isOver_47 (by decide) (K)
theorem bX10_isOver_50 {I : Nat → Nat → Int32} {L : Nat → Int64} {Q : Option Value → (Nat → Nat → Int32) → (Nat → Int64) → Prop} {v2 : Int32} (hz1 : v2 = 0 ∨ v2 = 1) (K : Q (some (.int v2)) I L) : XS mX10_isOver 50 [(2, .int v2)] [] I L Q := by
  refine x_iload_n 0 dX10_isOver_50 rfl rfl ?_
  exact xs_iret dX10_isOver_51 rfl (x_nar _ hz1) K
theorem bX10_leads_0 {I : Nat → Nat → Int32} {L : Nat → Int64} {Q : Option Value → (Nat → Nat → Int32) → (Nat → Int64) → Prop} {a1 : Nat} {v2 : Int32} {v3 : Int32} {v4 : Int32} {v5 : Int32}  (K : XS mX10_leads 3 [(0, .ref 49), (1, .ref a1), (3, .int v3), (4, .int v4), (5, .int v5), (6, .int v2)] [] I L Q) : XS mX10_leads 0 [(0, .ref 49), (1, .ref a1), (2, .int v2), (3, .int v3), (4, .int v4), (5, .int v5)] [] I L Q := by
  refine x_iload_n 2 dX10_leads_0 rfl rfl ?_
  refine x_istore [(0, .ref 49), (1, .ref a1), (2, .int v2), (3, .int v3), (4, .int v4), (5, .int v5), (6, .int v2)] dX10_leads_1 (Nat.le_of_ble_eq_true rfl) rfl ?_
  exact x_sub [0, 1, 3, 4, 5, 6] rfl (K)
theorem bX10_leads_3 {I : Nat → Nat → Int32} {L : Nat → Int64} {Q : Option Value → (Nat → Nat → Int32) → (Nat → Int64) → Prop} {a1 : Nat} {v3 : Int32} {v4 : Int32} {v5 : Int32} {v6 : Int32}  (K1 : (v3 ≤ v6) → XS mX10_leads 39 [(3, .int v3), (6, .int v6)] [] I L Q) (K2 : (¬ v3 ≤ v6) → XS mX10_leads 9 [(0, .ref 49), (1, .ref a1), (3, .int v3), (4, .int v4), (5, .int v5), (6, .int v6)] [] I L Q) : XS mX10_leads 3 [(0, .ref 49), (1, .ref a1), (3, .int v3), (4, .int v4), (5, .int v5), (6, .int v6)] [] I L Q := by
  refine x_iload 5 dX10_leads_3 rfl ?_
  refine x_iload_n 2 dX10_leads_5 rfl rfl ?_
  exact x_icmp_ge 39 dX10_leads_6 (by decide) (fun h => x_sub [2, 5] rfl (K1 h)) (fun h => K2 h)
theorem bX10_leads_9 {I : Nat → Nat → Int32} {L : Nat → Int64} {Q : Option Value → (Nat → Nat → Int32) → (Nat → Int64) → Prop} {a1 : Nat} {v3 : Int32} {v4 : Int32} {v5 : Int32} {v6 : Int32} {n_a1 : Nat} (hs_a1 : x_SH[a1]? = some (1, n_a1)) (hb1 : vp_in v6 n_a1) (hb2 : vp_in v3 n_a1) (K : XS mX10_nextOf 0 [(0, .ref 49), (1, .int (I (64 * a1) (v6.toNatClampNeg))), (2, .int (I (64 * a1) (v3.toNatClampNeg))), (3, .int v4), (4, .int v5)] [] I L (fun r I' L' => XS mX10_leads 24 [(0, .ref 49), (1, .ref a1), (3, .int v3), (4, .int v4), (5, .int v5), (6, .int v6)] (r.toList ++ []) I' L' Q)) : XS mX10_leads 9 [(0, .ref 49), (1, .ref a1), (3, .int v3), (4, .int v4), (5, .int v5), (6, .int v6)] [] I L Q := by
  refine x_aload_n 0 dX10_leads_9 rfl rfl ?_
  refine x_aload_n 1 dX10_leads_10 rfl rfl ?_
  refine x_iload 5 dX10_leads_11 rfl ?_
  refine xs_iald (64 * a1) (v6.toNatClampNeg) dX10_leads_13 hs_a1 rfl rfl hb1 ?_
  refine x_aload_n 1 dX10_leads_14 rfl rfl ?_
  refine x_iload_n 2 dX10_leads_15 rfl rfl ?_
  refine xs_iald (64 * a1) (v3.toNatClampNeg) dX10_leads_16 hs_a1 rfl rfl hb2 ?_
  refine x_iload 3 dX10_leads_17 rfl ?_
  refine x_iload 4 dX10_leads_19 rfl ?_
  exact xs_callV mX10_nextOf [.int (I (64 * a1) (v6.toNatClampNeg)), .int (I (64 * a1) (v3.toNatClampNeg)), .int v4, .int v5] [] 49 10 4 _ rfl dX10_leads_21 ml_X10_111 qX10_nextOf rfl ⟨Nat.le_of_ble_eq_true rfl, Nat.le_of_ble_eq_true rfl⟩ ⟨rfl, rfl⟩ (Nat.le_of_ble_eq_true rfl) sh_49 (by decide) rfl (Nat.le_of_ble_eq_true rfl) (K)
theorem bX10_leads_24 {I : Nat → Nat → Int32} {L : Nat → Int64} {Q : Option Value → (Nat → Nat → Int32) → (Nat → Int64) → Prop} {a1 : Nat} {v3 : Int32} {v4 : Int32} {v5 : Int32} {v6 : Int32} {s0 : Int32} {n_a1 : Nat} (hs_a1 : x_SH[a1]? = some (1, n_a1)) (hb1 : vp_in (v6 + (1 : Int32)) n_a1) (K1 : (¬ s0 = (I (64 * a1) ((v6 + (1 : Int32)).toNatClampNeg))) → XS mX10_leads 39 [(3, .int v3), (6, .int v6)] [] I L Q) (K2 : (s0 = (I (64 * a1) ((v6 + (1 : Int32)).toNatClampNeg))) → XS mX10_leads 33 [(0, .ref 49), (1, .ref a1), (3, .int v3), (4, .int v4), (5, .int v5), (6, .int v6)] [] I L Q) : XS mX10_leads 24 [(0, .ref 49), (1, .ref a1), (3, .int v3), (4, .int v4), (5, .int v5), (6, .int v6)] [.int s0] I L Q := by
  refine x_aload_n 1 dX10_leads_24 rfl rfl ?_
  refine x_iload 5 dX10_leads_25 rfl ?_
  refine x_iconst (v := (1 : Int32)) dX10_leads_27 (by decide) ?_
  refine x_iadd dX10_leads_28 ?_
  refine xs_iald (64 * a1) ((v6 + (1 : Int32)).toNatClampNeg) dX10_leads_29 hs_a1 rfl rfl hb1 ?_
  exact x_icmp_ne 39 dX10_leads_30 (by decide) (fun h => x_sub [2, 5] rfl (K1 h)) (fun h => K2 h)
theorem bX10_leads_33 {I : Nat → Nat → Int32} {L : Nat → Int64} {Q : Option Value → (Nat → Nat → Int32) → (Nat → Int64) → Prop} {a1 : Nat} {v3 : Int32} {v4 : Int32} {v5 : Int32} {v6 : Int32}  (K : XS mX10_leads 3 [(0, .ref 49), (1, .ref a1), (3, .int v3), (4, .int v4), (5, .int v5), (6, .int (v6 + (1 : Int32)))] [] I L Q) : XS mX10_leads 33 [(0, .ref 49), (1, .ref a1), (3, .int v3), (4, .int v4), (5, .int v5), (6, .int v6)] [] I L Q := by
  refine x_iinc 5 (v6 + (1 : Int32)) [(0, .ref 49), (1, .ref a1), (3, .int v3), (4, .int v4), (5, .int v5), (6, .int (v6 + (1 : Int32)))] dX10_leads_33 rfl rfl (Nat.le_of_ble_eq_true rfl) rfl ?_
  exact x_goto 3 dX10_leads_36 (by decide) (K)
theorem bX10_leads_39 {I : Nat → Nat → Int32} {L : Nat → Int64} {Q : Option Value → (Nat → Nat → Int32) → (Nat → Int64) → Prop} {v3 : Int32} {v6 : Int32}  (K1 : (¬ v6 = v3) → XS mX10_leads 49 [] [] I L Q) (K2 : (v6 = v3) → XS mX10_leads 45 [] [] I L Q) : XS mX10_leads 39 [(3, .int v3), (6, .int v6)] [] I L Q := by
  refine x_iload 1 dX10_leads_39 rfl ?_
  refine x_iload_n 0 dX10_leads_41 rfl rfl ?_
  exact x_icmp_ne 49 dX10_leads_42 (by decide) (fun h => x_sub [] rfl (K1 h)) (fun h => x_sub [] rfl (K2 h))
theorem bX10_leads_45 {I : Nat → Nat → Int32} {L : Nat → Int64} {Q : Option Value → (Nat → Nat → Int32) → (Nat → Int64) → Prop}   (K : XS mX10_leads 50 [] [.int (1 : Int32)] I L Q) : XS mX10_leads 45 [] [] I L Q := by
  refine x_iconst (v := (1 : Int32)) dX10_leads_45 (by decide) ?_
  exact x_goto 50 dX10_leads_46 (by decide) (K)
theorem bX10_leads_49 {I : Nat → Nat → Int32} {L : Nat → Int64} {Q : Option Value → (Nat → Nat → Int32) → (Nat → Int64) → Prop}   (K : XS mX10_leads 50 [] [.int (0 : Int32)] I L Q) : XS mX10_leads 49 [] [] I L Q := by
  refine x_iconst (v := (0 : Int32)) dX10_leads_49 (by decide) ?_
  exact K
theorem bX10_leads_50 {I : Nat → Nat → Int32} {L : Nat → Int64} {Q : Option Value → (Nat → Nat → Int32) → (Nat → Int64) → Prop} {s0 : Int32} (hz1 : s0 = 0 ∨ s0 = 1) (K : Q (some (.int s0)) I L) : XS mX10_leads 50 [] [.int s0] I L Q := by
  exact xs_iret dX10_leads_50 rfl (x_nar _ hz1) K
theorem bX10_laysBy_0 {I : Nat → Nat → Int32} {L : Nat → Int64} {Q : Option Value → (Nat → Nat → Int32) → (Nat → Int64) → Prop} {a1 : Nat} {v2 : Int32} {v3 : Int32} {v4 : Int32}  (K : XS mX10_laysBy 3 [(0, .ref 49), (1, .ref a1), (2, .int v2), (3, .int v3), (4, .int v4), (5, .int (0 : Int32))] [] I L Q) : XS mX10_laysBy 0 [(0, .ref 49), (1, .ref a1), (2, .int v2), (3, .int v3), (4, .int v4)] [] I L Q := by
  refine x_iconst (v := (0 : Int32)) dX10_laysBy_0 (by decide) ?_
  refine x_istore [(0, .ref 49), (1, .ref a1), (2, .int v2), (3, .int v3), (4, .int v4), (5, .int (0 : Int32))] dX10_laysBy_1 (Nat.le_of_ble_eq_true rfl) rfl ?_
  exact K
theorem bX10_laysBy_3 {I : Nat → Nat → Int32} {L : Nat → Int64} {Q : Option Value → (Nat → Nat → Int32) → (Nat → Int64) → Prop} {a1 : Nat} {v2 : Int32} {v3 : Int32} {v4 : Int32} {v5 : Int32}  (K1 : ((64 : Int32) ≤ v5) → XS mX10_laysBy 24 [(0, .ref 49), (1, .ref a1), (2, .int v2), (3, .int v3), (4, .int v4)] [] I L Q) (K2 : (¬ (64 : Int32) ≤ v5) → XS mX10_laysBy 10 [(0, .ref 49), (1, .ref a1), (2, .int v2), (3, .int v3), (4, .int v4), (5, .int v5)] [] I L Q) : XS mX10_laysBy 3 [(0, .ref 49), (1, .ref a1), (2, .int v2), (3, .int v3), (4, .int v4), (5, .int v5)] [] I L Q := by
  refine x_iload 5 dX10_laysBy_3 rfl ?_
  refine x_bipush (v := (64 : Int32)) dX10_laysBy_5 (by decide) ?_
  exact x_icmp_ge 24 dX10_laysBy_7 (by decide) (fun h => x_sub [0, 1, 2, 3, 4] rfl (K1 h)) (fun h => K2 h)
theorem bX10_laysBy_10 {I : Nat → Nat → Int32} {L : Nat → Int64} {Q : Option Value → (Nat → Nat → Int32) → (Nat → Int64) → Prop} {a1 : Nat} {v2 : Int32} {v3 : Int32} {v4 : Int32} {v5 : Int32} (hb1 : vp_in v5 64) (K : XS mX10_laysBy 3 [(0, .ref 49), (1, .ref a1), (2, .int v2), (3, .int v3), (4, .int v4), (5, .int (v5 + (1 : Int32)))] [] (x_up I 3840 (v5.toNatClampNeg) (-1 : Int32)) L Q) : XS mX10_laysBy 10 [(0, .ref 49), (1, .ref a1), (2, .int v2), (3, .int v3), (4, .int v4), (5, .int v5)] [] I L Q := by
  refine x_aload_n 0 dX10_laysBy_10 rfl rfl ?_
  refine xs_getr dX10_laysBy_11 fl_X10_44 sh_49 rfl rf_3153 ?_
  refine x_iload 5 dX10_laysBy_14 rfl ?_
  refine x_iconst (v := (-1 : Int32)) dX10_laysBy_16 (by decide) ?_
  refine xs_iast 3840 (v5.toNatClampNeg) dX10_laysBy_17 sh_60 rfl rfl hb1 ?_
  refine x_iinc 5 (v5 + (1 : Int32)) [(0, .ref 49), (1, .ref a1), (2, .int v2), (3, .int v3), (4, .int v4), (5, .int (v5 + (1 : Int32)))] dX10_laysBy_18 rfl rfl (Nat.le_of_ble_eq_true rfl) rfl ?_
  exact x_goto 3 dX10_laysBy_21 (by decide) (K)
theorem bX10_laysBy_24 {I : Nat → Nat → Int32} {L : Nat → Int64} {Q : Option Value → (Nat → Nat → Int32) → (Nat → Int64) → Prop} {a1 : Nat} {v2 : Int32} {v3 : Int32} {v4 : Int32}  (K : XS mX10_laysBy 27 [(0, .ref 49), (1, .ref a1), (2, .int v2), (3, .int v3), (4, .int v4), (5, .int (2 : Int32))] [] I L Q) : XS mX10_laysBy 24 [(0, .ref 49), (1, .ref a1), (2, .int v2), (3, .int v3), (4, .int v4)] [] I L Q := by
  refine x_iconst (v := (2 : Int32)) dX10_laysBy_24 (by decide) ?_
  refine x_istore [(0, .ref 49), (1, .ref a1), (2, .int v2), (3, .int v3), (4, .int v4), (5, .int (2 : Int32))] dX10_laysBy_25 (Nat.le_of_ble_eq_true rfl) rfl ?_
  exact K
theorem bX10_laysBy_27 {I : Nat → Nat → Int32} {L : Nat → Int64} {Q : Option Value → (Nat → Nat → Int32) → (Nat → Int64) → Prop} {a1 : Nat} {v2 : Int32} {v3 : Int32} {v4 : Int32} {v5 : Int32}  (K1 : (v5 < 0) → XS mX10_laysBy 196 [] [] I L Q) (K2 : (¬ v5 < 0) → XS mX10_laysBy 32 [(0, .ref 49), (1, .ref a1), (2, .int v2), (3, .int v3), (4, .int v4), (5, .int v5)] [] I L Q) : XS mX10_laysBy 27 [(0, .ref 49), (1, .ref a1), (2, .int v2), (3, .int v3), (4, .int v4), (5, .int v5)] [] I L Q := by
  refine x_iload 5 dX10_laysBy_27 rfl ?_
  exact x_if_lt 196 dX10_laysBy_29 (by decide) (fun h => x_sub [] rfl (K1 h)) (fun h => K2 h)
theorem bX10_laysBy_32 {I : Nat → Nat → Int32} {L : Nat → Int64} {Q : Option Value → (Nat → Nat → Int32) → (Nat → Int64) → Prop} {a1 : Nat} {v2 : Int32} {v3 : Int32} {v4 : Int32} {v5 : Int32}  (K1 : ((2 : Int32) ≤ v5) → XS mX10_laysBy 45 [(0, .ref 49), (1, .ref a1), (2, .int v2), (3, .int v3), (4, .int v4), (5, .int v5)] [] I L Q) (K2 : (¬ (2 : Int32) ≤ v5) → XS mX10_laysBy 38 [(0, .ref 49), (1, .ref a1), (2, .int v2), (3, .int v3), (4, .int v4), (5, .int v5)] [] I L Q) : XS mX10_laysBy 32 [(0, .ref 49), (1, .ref a1), (2, .int v2), (3, .int v3), (4, .int v4), (5, .int v5)] [] I L Q := by
  refine x_iload 5 dX10_laysBy_32 rfl ?_
  refine x_iconst (v := (2 : Int32)) dX10_laysBy_34 (by decide) ?_
  exact x_icmp_ge 45 dX10_laysBy_35 (by decide) (fun h => K1 h) (fun h => K2 h)
theorem bX10_laysBy_38 {I : Nat → Nat → Int32} {L : Nat → Int64} {Q : Option Value → (Nat → Nat → Int32) → (Nat → Int64) → Prop} {a1 : Nat} {v2 : Int32} {v3 : Int32} {v4 : Int32} {v5 : Int32}  (K : XS mX10_lays 0 [(0, .ref 49), (1, .int v5), (2, .int v3)] [] I L (fun r I' L' => XS mX10_laysBy 45 [(0, .ref 49), (1, .ref a1), (2, .int v2), (3, .int v3), (4, .int v4), (5, .int v5)] (r.toList ++ []) I' L' Q)) : XS mX10_laysBy 38 [(0, .ref 49), (1, .ref a1), (2, .int v2), (3, .int v3), (4, .int v4), (5, .int v5)] [] I L Q := by
  refine x_aload_n 0 dX10_laysBy_38 rfl rfl ?_
  refine x_iload 5 dX10_laysBy_39 rfl ?_
  refine x_iload_n 3 dX10_laysBy_41 rfl rfl ?_
  exact xs_callV mX10_lays [.int v5, .int v3] [] 49 10 2 _ rfl dX10_laysBy_42 ml_X10_104 qX10_lays rfl ⟨Nat.le_of_ble_eq_true rfl, Nat.le_of_ble_eq_true rfl⟩ ⟨rfl, rfl⟩ (Nat.le_of_ble_eq_true rfl) sh_49 (by decide) rfl (Nat.le_of_ble_eq_true rfl) (K)
theorem bX10_laysBy_45 {I : Nat → Nat → Int32} {L : Nat → Int64} {Q : Option Value → (Nat → Nat → Int32) → (Nat → Int64) → Prop} {a1 : Nat} {v2 : Int32} {v3 : Int32} {v4 : Int32} {v5 : Int32}  (K : XS mX10_laysBy 48 [(0, .ref 49), (1, .ref a1), (2, .int v2), (3, .int v3), (4, .int v4), (5, .int v5), (6, .int (0 : Int32))] [] I L Q) : XS mX10_laysBy 45 [(0, .ref 49), (1, .ref a1), (2, .int v2), (3, .int v3), (4, .int v4), (5, .int v5)] [] I L Q := by
  refine x_iconst (v := (0 : Int32)) dX10_laysBy_45 (by decide) ?_
  refine x_istore [(0, .ref 49), (1, .ref a1), (2, .int v2), (3, .int v3), (4, .int v4), (5, .int v5), (6, .int (0 : Int32))] dX10_laysBy_46 (Nat.le_of_ble_eq_true rfl) rfl ?_
  exact K
theorem bX10_laysBy_48 {I : Nat → Nat → Int32} {L : Nat → Int64} {Q : Option Value → (Nat → Nat → Int32) → (Nat → Int64) → Prop} {a1 : Nat} {v2 : Int32} {v3 : Int32} {v4 : Int32} {v5 : Int32} {v6 : Int32}  (K1 : (v2 ≤ v6) → XS mX10_laysBy 190 [(0, .ref 49), (1, .ref a1), (2, .int v2), (3, .int v3), (4, .int v4), (5, .int v5)] [] I L Q) (K2 : (¬ v2 ≤ v6) → XS mX10_laysBy 54 [(0, .ref 49), (1, .ref a1), (2, .int v2), (3, .int v3), (4, .int v4), (5, .int v5), (6, .int v6)] [] I L Q) : XS mX10_laysBy 48 [(0, .ref 49), (1, .ref a1), (2, .int v2), (3, .int v3), (4, .int v4), (5, .int v5), (6, .int v6)] [] I L Q := by
  refine x_iload 6 dX10_laysBy_48 rfl ?_
  refine x_iload_n 2 dX10_laysBy_50 rfl rfl ?_
  exact x_icmp_ge 190 dX10_laysBy_51 (by decide) (fun h => x_sub [0, 1, 2, 3, 4, 5] rfl (K1 h)) (fun h => K2 h)
theorem bX10_laysBy_54 {I : Nat → Nat → Int32} {L : Nat → Int64} {Q : Option Value → (Nat → Nat → Int32) → (Nat → Int64) → Prop} {a1 : Nat} {v2 : Int32} {v3 : Int32} {v4 : Int32} {v5 : Int32} {v6 : Int32}  (K : XS mX10_has 0 [(0, .int v4), (1, .int v5)] [] I L (fun r I' L' => XS mX10_laysBy 61 [(0, .ref 49), (1, .ref a1), (2, .int v2), (3, .int v3), (4, .int v4), (5, .int v5), (6, .int v6)] (r.toList ++ []) I' L' Q)) : XS mX10_laysBy 54 [(0, .ref 49), (1, .ref a1), (2, .int v2), (3, .int v3), (4, .int v4), (5, .int v5), (6, .int v6)] [] I L Q := by
  refine x_iload 4 dX10_laysBy_54 rfl ?_
  refine x_iload 5 dX10_laysBy_56 rfl ?_
  exact xs_callS mX10_has [.int v4, .int v5] [] 2 _ rfl dX10_laysBy_58 ml_X10_93 qX10_has rfl ⟨Nat.le_of_ble_eq_true rfl, Nat.le_of_ble_eq_true rfl⟩ ⟨rfl, rfl⟩ (Nat.le_of_ble_eq_true rfl) (Nat.le_of_ble_eq_true rfl) (K)
theorem bX10_laysBy_61 {I : Nat → Nat → Int32} {L : Nat → Int64} {Q : Option Value → (Nat → Nat → Int32) → (Nat → Int64) → Prop} {a1 : Nat} {v2 : Int32} {v3 : Int32} {v4 : Int32} {v5 : Int32} {v6 : Int32} {s0 : Int32}  (K1 : (s0 = 0) → XS mX10_laysBy 190 [(0, .ref 49), (1, .ref a1), (2, .int v2), (3, .int v3), (4, .int v4), (5, .int v5)] [] I L Q) (K2 : (¬ s0 = 0) → XS mX10_laysBy 64 [(0, .ref 49), (1, .ref a1), (2, .int v2), (3, .int v3), (4, .int v4), (5, .int v5), (6, .int v6)] [] I L Q) : XS mX10_laysBy 61 [(0, .ref 49), (1, .ref a1), (2, .int v2), (3, .int v3), (4, .int v4), (5, .int v5), (6, .int v6)] [.int s0] I L Q := by
  exact x_if_eq 190 dX10_laysBy_61 (by decide) (fun h => x_sub [0, 1, 2, 3, 4, 5] rfl (K1 h)) (fun h => K2 h)
theorem bX10_laysBy_64 {I : Nat → Nat → Int32} {L : Nat → Int64} {Q : Option Value → (Nat → Nat → Int32) → (Nat → Int64) → Prop} {a1 : Nat} {v2 : Int32} {v3 : Int32} {v4 : Int32} {v5 : Int32} {v6 : Int32}  (K : XS mX10_laysBy 70 [(0, .ref 49), (1, .ref a1), (2, .int v2), (3, .int v3), (4, .int v4), (5, .int v5), (6, .int v6), (7, .int (v6 + (1 : Int32)))] [] I L Q) : XS mX10_laysBy 64 [(0, .ref 49), (1, .ref a1), (2, .int v2), (3, .int v3), (4, .int v4), (5, .int v5), (6, .int v6)] [] I L Q := by
  refine x_iload 6 dX10_laysBy_64 rfl ?_
  refine x_iconst (v := (1 : Int32)) dX10_laysBy_66 (by decide) ?_
  refine x_iadd dX10_laysBy_67 ?_
  refine x_istore [(0, .ref 49), (1, .ref a1), (2, .int v2), (3, .int v3), (4, .int v4), (5, .int v5), (6, .int v6), (7, .int (v6 + (1 : Int32)))] dX10_laysBy_68 (Nat.le_of_ble_eq_true rfl) rfl ?_
  exact K
theorem bX10_laysBy_70 {I : Nat → Nat → Int32} {L : Nat → Int64} {Q : Option Value → (Nat → Nat → Int32) → (Nat → Int64) → Prop} {a1 : Nat} {v2 : Int32} {v3 : Int32} {v4 : Int32} {v5 : Int32} {v6 : Int32} {v7 : Int32}  (K1 : (v2 ≤ v7) → XS mX10_laysBy 184 [(0, .ref 49), (1, .ref a1), (2, .int v2), (3, .int v3), (4, .int v4), (5, .int v5), (6, .int v6)] [] I L Q) (K2 : (¬ v2 ≤ v7) → XS mX10_laysBy 76 [(0, .ref 49), (1, .ref a1), (2, .int v2), (3, .int v3), (4, .int v4), (5, .int v5), (6, .int v6), (7, .int v7)] [] I L Q) : XS mX10_laysBy 70 [(0, .ref 49), (1, .ref a1), (2, .int v2), (3, .int v3), (4, .int v4), (5, .int v5), (6, .int v6), (7, .int v7)] [] I L Q := by
  refine x_iload 7 dX10_laysBy_70 rfl ?_
  refine x_iload_n 2 dX10_laysBy_72 rfl rfl ?_
  exact x_icmp_ge 184 dX10_laysBy_73 (by decide) (fun h => x_sub [0, 1, 2, 3, 4, 5, 6] rfl (K1 h)) (fun h => K2 h)
theorem bX10_laysBy_76 {I : Nat → Nat → Int32} {L : Nat → Int64} {Q : Option Value → (Nat → Nat → Int32) → (Nat → Int64) → Prop} {a1 : Nat} {v2 : Int32} {v3 : Int32} {v4 : Int32} {v5 : Int32} {v6 : Int32} {v7 : Int32} {n_a1 : Nat} (hs_a1 : x_SH[a1]? = some (1, n_a1)) (hb1 : vp_in v6 n_a1) (hb2 : vp_in v7 n_a1) (K : XS mX10_linkOf 0 [(0, .ref 49), (1, .int (I (64 * a1) (v6.toNatClampNeg))), (2, .int (I (64 * a1) (v7.toNatClampNeg)))] [] I L (fun r I' L' => XS mX10_laysBy 88 [(0, .ref 49), (1, .ref a1), (2, .int v2), (3, .int v3), (4, .int v4), (5, .int v5), (6, .int v6), (7, .int v7)] (r.toList ++ []) I' L' Q)) : XS mX10_laysBy 76 [(0, .ref 49), (1, .ref a1), (2, .int v2), (3, .int v3), (4, .int v4), (5, .int v5), (6, .int v6), (7, .int v7)] [] I L Q := by
  refine x_aload_n 0 dX10_laysBy_76 rfl rfl ?_
  refine x_aload_n 1 dX10_laysBy_77 rfl rfl ?_
  refine x_iload 6 dX10_laysBy_78 rfl ?_
  refine xs_iald (64 * a1) (v6.toNatClampNeg) dX10_laysBy_80 hs_a1 rfl rfl hb1 ?_
  refine x_aload_n 1 dX10_laysBy_81 rfl rfl ?_
  refine x_iload 7 dX10_laysBy_82 rfl ?_
  refine xs_iald (64 * a1) (v7.toNatClampNeg) dX10_laysBy_84 hs_a1 rfl rfl hb2 ?_
  exact xs_callV mX10_linkOf [.int (I (64 * a1) (v6.toNatClampNeg)), .int (I (64 * a1) (v7.toNatClampNeg))] [] 49 10 2 _ rfl dX10_laysBy_85 ml_X10_101 qX10_linkOf rfl ⟨Nat.le_of_ble_eq_true rfl, Nat.le_of_ble_eq_true rfl⟩ ⟨rfl, rfl⟩ (Nat.le_of_ble_eq_true rfl) sh_49 (by decide) rfl (Nat.le_of_ble_eq_true rfl) (K)
theorem bX10_laysBy_88 {I : Nat → Nat → Int32} {L : Nat → Int64} {Q : Option Value → (Nat → Nat → Int32) → (Nat → Int64) → Prop} {a1 : Nat} {v2 : Int32} {v3 : Int32} {v4 : Int32} {v5 : Int32} {v6 : Int32} {v7 : Int32} {s0 : Int32}  (K1 : (¬ v5 = (2 : Int32)) → XS mX10_laysBy 128 [(0, .ref 49), (1, .ref a1), (2, .int v2), (3, .int v3), (4, .int v4), (5, .int v5), (6, .int v6), (7, .int v7)] [] I L Q) (K2 : (v5 = (2 : Int32)) → XS mX10_laysBy 96 [(0, .ref 49), (1, .ref a1), (2, .int v2), (3, .int v3), (4, .int v4), (5, .int v5), (6, .int v6), (7, .int v7), (8, .int s0)] [] I L Q) : XS mX10_laysBy 88 [(0, .ref 49), (1, .ref a1), (2, .int v2), (3, .int v3), (4, .int v4), (5, .int v5), (6, .int v6), (7, .int v7)] [.int s0] I L Q := by
  refine x_istore [(0, .ref 49), (1, .ref a1), (2, .int v2), (3, .int v3), (4, .int v4), (5, .int v5), (6, .int v6), (7, .int v7), (8, .int s0)] dX10_laysBy_88 (Nat.le_of_ble_eq_true rfl) rfl ?_
  refine x_iload 5 dX10_laysBy_90 rfl ?_
  refine x_iconst (v := (2 : Int32)) dX10_laysBy_92 (by decide) ?_
  exact x_icmp_ne 128 dX10_laysBy_93 (by decide) (fun h => x_sub [0, 1, 2, 3, 4, 5, 6, 7] rfl (K1 h)) (fun h => K2 h)
theorem bX10_laysBy_96 {I : Nat → Nat → Int32} {L : Nat → Int64} {Q : Option Value → (Nat → Nat → Int32) → (Nat → Int64) → Prop} {a1 : Nat} {v2 : Int32} {v3 : Int32} {v4 : Int32} {v5 : Int32} {v6 : Int32} {v7 : Int32} {v8 : Int32}  (K1 : (¬ v7 = (v6 + (1 : Int32))) → XS mX10_laysBy 124 [(0, .ref 49), (1, .ref a1), (2, .int v2), (3, .int v3), (4, .int v4), (5, .int v5), (6, .int v6), (7, .int v7)] [] I L Q) (K2 : (v7 = (v6 + (1 : Int32))) → XS mX10_laysBy 105 [(0, .ref 49), (1, .ref a1), (2, .int v2), (3, .int v3), (4, .int v4), (5, .int v5), (6, .int v6), (7, .int v7), (8, .int v8)] [] I L Q) : XS mX10_laysBy 96 [(0, .ref 49), (1, .ref a1), (2, .int v2), (3, .int v3), (4, .int v4), (5, .int v5), (6, .int v6), (7, .int v7), (8, .int v8)] [] I L Q := by
  refine x_iload 7 dX10_laysBy_96 rfl ?_
  refine x_iload 6 dX10_laysBy_98 rfl ?_
  refine x_iconst (v := (1 : Int32)) dX10_laysBy_100 (by decide) ?_
  refine x_iadd dX10_laysBy_101 ?_
  exact x_icmp_ne 124 dX10_laysBy_102 (by decide) (fun h => x_sub [0, 1, 2, 3, 4, 5, 6, 7] rfl (K1 h)) (fun h => K2 h)
theorem bX10_laysBy_105 {I : Nat → Nat → Int32} {L : Nat → Int64} {Q : Option Value → (Nat → Nat → Int32) → (Nat → Int64) → Prop} {a1 : Nat} {v2 : Int32} {v3 : Int32} {v4 : Int32} {v5 : Int32} {v6 : Int32} {v7 : Int32} {v8 : Int32}  (K1 : (v8 = (-1 : Int32)) → XS mX10_laysBy 124 [(0, .ref 49), (1, .ref a1), (2, .int v2), (3, .int v3), (4, .int v4), (5, .int v5), (6, .int v6), (7, .int v7)] [] I L Q) (K2 : (¬ v8 = (-1 : Int32)) → XS mX10_laysBy 111 [(0, .ref 49), (1, .ref a1), (2, .int v2), (3, .int v3), (4, .int v4), (5, .int v5), (6, .int v6), (7, .int v7), (8, .int v8)] [] I L Q) : XS mX10_laysBy 105 [(0, .ref 49), (1, .ref a1), (2, .int v2), (3, .int v3), (4, .int v4), (5, .int v5), (6, .int v6), (7, .int v7), (8, .int v8)] [] I L Q := by
  refine x_iload 8 dX10_laysBy_105 rfl ?_
  refine x_iconst (v := (-1 : Int32)) dX10_laysBy_107 (by decide) ?_
  exact x_icmp_eq 124 dX10_laysBy_108 (by decide) (fun h => x_sub [0, 1, 2, 3, 4, 5, 6, 7] rfl (K1 h)) (fun h => K2 h)
theorem bX10_laysBy_111 {I : Nat → Nat → Int32} {L : Nat → Int64} {Q : Option Value → (Nat → Nat → Int32) → (Nat → Int64) → Prop} {a1 : Nat} {v2 : Int32} {v3 : Int32} {v4 : Int32} {v5 : Int32} {v6 : Int32} {v7 : Int32} {v8 : Int32}  (K : XS mX10_has 0 [(0, .int v3), (1, .int v8)] [] I L (fun r I' L' => XS mX10_laysBy 117 [(0, .ref 49), (1, .ref a1), (2, .int v2), (3, .int v3), (4, .int v4), (5, .int v5), (6, .int v6), (7, .int v7)] (r.toList ++ []) I' L' Q)) : XS mX10_laysBy 111 [(0, .ref 49), (1, .ref a1), (2, .int v2), (3, .int v3), (4, .int v4), (5, .int v5), (6, .int v6), (7, .int v7), (8, .int v8)] [] I L Q := by
  refine x_iload_n 3 dX10_laysBy_111 rfl rfl ?_
  refine x_iload 8 dX10_laysBy_112 rfl ?_
  refine x_sub [0, 1, 2, 3, 4, 5, 6, 7] rfl ?_
  exact xs_callS mX10_has [.int v3, .int v8] [] 2 _ rfl dX10_laysBy_114 ml_X10_93 qX10_has rfl ⟨Nat.le_of_ble_eq_true rfl, Nat.le_of_ble_eq_true rfl⟩ ⟨rfl, rfl⟩ (Nat.le_of_ble_eq_true rfl) (Nat.le_of_ble_eq_true rfl) (K)
theorem bX10_laysBy_117 {I : Nat → Nat → Int32} {L : Nat → Int64} {Q : Option Value → (Nat → Nat → Int32) → (Nat → Int64) → Prop} {a1 : Nat} {v2 : Int32} {v3 : Int32} {v4 : Int32} {v5 : Int32} {v6 : Int32} {v7 : Int32} {s0 : Int32}  (K1 : (s0 = 0) → XS mX10_laysBy 124 [(0, .ref 49), (1, .ref a1), (2, .int v2), (3, .int v3), (4, .int v4), (5, .int v5), (6, .int v6), (7, .int v7)] [] I L Q) (K2 : (¬ s0 = 0) → XS mX10_laysBy 120 [(0, .ref 49), (1, .ref a1), (2, .int v2), (3, .int v3), (4, .int v4), (5, .int v5), (6, .int v6), (7, .int v7)] [] I L Q) : XS mX10_laysBy 117 [(0, .ref 49), (1, .ref a1), (2, .int v2), (3, .int v3), (4, .int v4), (5, .int v5), (6, .int v6), (7, .int v7)] [.int s0] I L Q := by
  exact x_if_eq 124 dX10_laysBy_117 (by decide) (fun h => K1 h) (fun h => K2 h)
theorem bX10_laysBy_120 {I : Nat → Nat → Int32} {L : Nat → Int64} {Q : Option Value → (Nat → Nat → Int32) → (Nat → Int64) → Prop} {a1 : Nat} {v2 : Int32} {v3 : Int32} {v4 : Int32} {v5 : Int32} {v6 : Int32} {v7 : Int32}  (K : XS mX10_laysBy 140 [(0, .ref 49), (1, .ref a1), (2, .int v2), (3, .int v3), (4, .int v4), (5, .int v5), (6, .int v6), (7, .int v7)] [.int (1 : Int32)] I L Q) : XS mX10_laysBy 120 [(0, .ref 49), (1, .ref a1), (2, .int v2), (3, .int v3), (4, .int v4), (5, .int v5), (6, .int v6), (7, .int v7)] [] I L Q := by
  refine x_iconst (v := (1 : Int32)) dX10_laysBy_120 (by decide) ?_
  exact x_goto 140 dX10_laysBy_121 (by decide) (K)
theorem bX10_laysBy_124 {I : Nat → Nat → Int32} {L : Nat → Int64} {Q : Option Value → (Nat → Nat → Int32) → (Nat → Int64) → Prop} {a1 : Nat} {v2 : Int32} {v3 : Int32} {v4 : Int32} {v5 : Int32} {v6 : Int32} {v7 : Int32}  (K : XS mX10_laysBy 140 [(0, .ref 49), (1, .ref a1), (2, .int v2), (3, .int v3), (4, .int v4), (5, .int v5), (6, .int v6), (7, .int v7)] [.int (0 : Int32)] I L Q) : XS mX10_laysBy 124 [(0, .ref 49), (1, .ref a1), (2, .int v2), (3, .int v3), (4, .int v4), (5, .int v5), (6, .int v6), (7, .int v7)] [] I L Q := by
  refine x_iconst (v := (0 : Int32)) dX10_laysBy_124 (by decide) ?_
  exact x_goto 140 dX10_laysBy_125 (by decide) (K)
theorem bX10_laysBy_128 {I : Nat → Nat → Int32} {L : Nat → Int64} {Q : Option Value → (Nat → Nat → Int32) → (Nat → Int64) → Prop} {a1 : Nat} {v2 : Int32} {v3 : Int32} {v4 : Int32} {v5 : Int32} {v6 : Int32} {v7 : Int32}  (K : XS mX10_leads 0 [(0, .ref 49), (1, .ref a1), (2, .int v6), (3, .int v7), (4, .int v5), (5, .int v3)] [] I L (fun r I' L' => XS mX10_laysBy 140 [(0, .ref 49), (1, .ref a1), (2, .int v2), (3, .int v3), (4, .int v4), (5, .int v5), (6, .int v6), (7, .int v7)] (r.toList ++ []) I' L' Q)) : XS mX10_laysBy 128 [(0, .ref 49), (1, .ref a1), (2, .int v2), (3, .int v3), (4, .int v4), (5, .int v5), (6, .int v6), (7, .int v7)] [] I L Q := by
  refine x_aload_n 0 dX10_laysBy_128 rfl rfl ?_
  refine x_aload_n 1 dX10_laysBy_129 rfl rfl ?_
  refine x_iload 6 dX10_laysBy_130 rfl ?_
  refine x_iload 7 dX10_laysBy_132 rfl ?_
  refine x_iload 5 dX10_laysBy_134 rfl ?_
  refine x_iload_n 3 dX10_laysBy_136 rfl rfl ?_
  exact xs_callV mX10_leads [.ref a1, .int v6, .int v7, .int v5, .int v3] [] 49 10 5 _ rfl dX10_laysBy_137 ml_X10_115 qX10_leads rfl ⟨Nat.le_of_ble_eq_true rfl, Nat.le_of_ble_eq_true rfl⟩ ⟨rfl, rfl⟩ (Nat.le_of_ble_eq_true rfl) sh_49 (by decide) rfl (Nat.le_of_ble_eq_true rfl) (K)
theorem bX10_laysBy_140 {I : Nat → Nat → Int32} {L : Nat → Int64} {Q : Option Value → (Nat → Nat → Int32) → (Nat → Int64) → Prop} {a1 : Nat} {v2 : Int32} {v3 : Int32} {v4 : Int32} {v5 : Int32} {v6 : Int32} {v7 : Int32} {s0 : Int32}  (K1 : (s0 = 0) → XS mX10_laysBy 164 [(0, .ref 49), (1, .ref a1), (2, .int v2), (3, .int v3), (4, .int v4), (5, .int v5), (6, .int v6), (7, .int v7)] [.int (((8 : Int32) * v6) + v7), .ref 60] I L Q) (K2 : (¬ s0 = 0) → XS mX10_laysBy 159 [(0, .ref 49), (1, .ref a1), (2, .int v2), (3, .int v3), (4, .int v4), (5, .int v5), (6, .int v6), (7, .int v7)] [.int (((8 : Int32) * v6) + v7), .ref 60] I L Q) : XS mX10_laysBy 140 [(0, .ref 49), (1, .ref a1), (2, .int v2), (3, .int v3), (4, .int v4), (5, .int v5), (6, .int v6), (7, .int v7)] [.int s0] I L Q := by
  refine x_istore [(0, .ref 49), (1, .ref a1), (2, .int v2), (3, .int v3), (4, .int v4), (5, .int v5), (6, .int v6), (7, .int v7), (9, .int s0)] dX10_laysBy_140 (Nat.le_of_ble_eq_true rfl) rfl ?_
  refine x_aload_n 0 dX10_laysBy_142 rfl rfl ?_
  refine xs_getr dX10_laysBy_143 fl_X10_44 sh_49 rfl rf_3153 ?_
  refine x_bipush (v := (8 : Int32)) dX10_laysBy_146 (by decide) ?_
  refine x_iload 6 dX10_laysBy_148 rfl ?_
  refine x_imul dX10_laysBy_150 ?_
  refine x_iload 7 dX10_laysBy_151 rfl ?_
  refine x_iadd dX10_laysBy_153 ?_
  refine x_iload 8 dX10_laysBy_154 rfl ?_
  exact x_if_eq 164 dX10_laysBy_156 (by decide) (fun h => x_sub [0, 1, 2, 3, 4, 5, 6, 7] rfl (K1 h)) (fun h => x_sub [0, 1, 2, 3, 4, 5, 6, 7] rfl (K2 h))
theorem bX10_laysBy_159 {I : Nat → Nat → Int32} {L : Nat → Int64} {Q : Option Value → (Nat → Nat → Int32) → (Nat → Int64) → Prop} {a1 : Nat} {v2 : Int32} {v3 : Int32} {v4 : Int32} {v5 : Int32} {v6 : Int32} {v7 : Int32} {s1 : Int32}  (K : XS mX10_laysBy 177 [(0, .ref 49), (1, .ref a1), (2, .int v2), (3, .int v3), (4, .int v4), (5, .int v5), (6, .int v6), (7, .int v7)] [.int v5, .int s1, .ref 60] I L Q) : XS mX10_laysBy 159 [(0, .ref 49), (1, .ref a1), (2, .int v2), (3, .int v3), (4, .int v4), (5, .int v5), (6, .int v6), (7, .int v7)] [.int s1, .ref 60] I L Q := by
  refine x_iload 5 dX10_laysBy_159 rfl ?_
  exact x_goto 177 dX10_laysBy_161 (by decide) (K)
theorem bX10_laysBy_164 {I : Nat → Nat → Int32} {L : Nat → Int64} {Q : Option Value → (Nat → Nat → Int32) → (Nat → Int64) → Prop} {a1 : Nat} {v2 : Int32} {v3 : Int32} {v4 : Int32} {v5 : Int32} {v6 : Int32} {v7 : Int32} {s1 : Int32} (hb1 : vp_in (((8 : Int32) * v6) + v7) 64) (K : XS mX10_laysBy 177 [(0, .ref 49), (1, .ref a1), (2, .int v2), (3, .int v3), (4, .int v4), (5, .int v5), (6, .int v6), (7, .int v7)] [.int (I 3840 ((((8 : Int32) * v6) + v7).toNatClampNeg)), .int s1, .ref 60] I L Q) : XS mX10_laysBy 164 [(0, .ref 49), (1, .ref a1), (2, .int v2), (3, .int v3), (4, .int v4), (5, .int v5), (6, .int v6), (7, .int v7)] [.int s1, .ref 60] I L Q := by
  refine x_aload_n 0 dX10_laysBy_164 rfl rfl ?_
  refine xs_getr dX10_laysBy_165 fl_X10_44 sh_49 rfl rf_3153 ?_
  refine x_bipush (v := (8 : Int32)) dX10_laysBy_168 (by decide) ?_
  refine x_iload 6 dX10_laysBy_170 rfl ?_
  refine x_imul dX10_laysBy_172 ?_
  refine x_iload 7 dX10_laysBy_173 rfl ?_
  refine x_iadd dX10_laysBy_175 ?_
  refine xs_iald 3840 ((((8 : Int32) * v6) + v7).toNatClampNeg) dX10_laysBy_176 sh_60 rfl rfl hb1 ?_
  exact K
theorem bX10_laysBy_177 {I : Nat → Nat → Int32} {L : Nat → Int64} {Q : Option Value → (Nat → Nat → Int32) → (Nat → Int64) → Prop} {a1 : Nat} {v2 : Int32} {v3 : Int32} {v4 : Int32} {v5 : Int32} {v6 : Int32} {v7 : Int32} {s1 : Int32} {s2 : Int32} (hb1 : vp_in s1 64) (K : XS mX10_laysBy 70 [(0, .ref 49), (1, .ref a1), (2, .int v2), (3, .int v3), (4, .int v4), (5, .int v5), (6, .int v6), (7, .int (v7 + (1 : Int32)))] [] (x_up I 3840 (s1.toNatClampNeg) s2) L Q) : XS mX10_laysBy 177 [(0, .ref 49), (1, .ref a1), (2, .int v2), (3, .int v3), (4, .int v4), (5, .int v5), (6, .int v6), (7, .int v7)] [.int s2, .int s1, .ref 60] I L Q := by
  refine xs_iast 3840 (s1.toNatClampNeg) dX10_laysBy_177 sh_60 rfl rfl hb1 ?_
  refine x_iinc 7 (v7 + (1 : Int32)) [(0, .ref 49), (1, .ref a1), (2, .int v2), (3, .int v3), (4, .int v4), (5, .int v5), (6, .int v6), (7, .int (v7 + (1 : Int32)))] dX10_laysBy_178 rfl rfl (Nat.le_of_ble_eq_true rfl) rfl ?_
  exact x_goto 70 dX10_laysBy_181 (by decide) (K)
theorem bX10_laysBy_184 {I : Nat → Nat → Int32} {L : Nat → Int64} {Q : Option Value → (Nat → Nat → Int32) → (Nat → Int64) → Prop} {a1 : Nat} {v2 : Int32} {v3 : Int32} {v4 : Int32} {v5 : Int32} {v6 : Int32}  (K : XS mX10_laysBy 48 [(0, .ref 49), (1, .ref a1), (2, .int v2), (3, .int v3), (4, .int v4), (5, .int v5), (6, .int (v6 + (1 : Int32)))] [] I L Q) : XS mX10_laysBy 184 [(0, .ref 49), (1, .ref a1), (2, .int v2), (3, .int v3), (4, .int v4), (5, .int v5), (6, .int v6)] [] I L Q := by
  refine x_iinc 6 (v6 + (1 : Int32)) [(0, .ref 49), (1, .ref a1), (2, .int v2), (3, .int v3), (4, .int v4), (5, .int v5), (6, .int (v6 + (1 : Int32)))] dX10_laysBy_184 rfl rfl (Nat.le_of_ble_eq_true rfl) rfl ?_
  exact x_goto 48 dX10_laysBy_187 (by decide) (K)
theorem bX10_laysBy_190 {I : Nat → Nat → Int32} {L : Nat → Int64} {Q : Option Value → (Nat → Nat → Int32) → (Nat → Int64) → Prop} {a1 : Nat} {v2 : Int32} {v3 : Int32} {v4 : Int32} {v5 : Int32}  (K : XS mX10_laysBy 27 [(0, .ref 49), (1, .ref a1), (2, .int v2), (3, .int v3), (4, .int v4), (5, .int (v5 + (-1 : Int32)))] [] I L Q) : XS mX10_laysBy 190 [(0, .ref 49), (1, .ref a1), (2, .int v2), (3, .int v3), (4, .int v4), (5, .int v5)] [] I L Q := by
  refine x_iinc 5 (v5 + (-1 : Int32)) [(0, .ref 49), (1, .ref a1), (2, .int v2), (3, .int v3), (4, .int v4), (5, .int (v5 + (-1 : Int32)))] dX10_laysBy_190 rfl rfl (Nat.le_of_ble_eq_true rfl) rfl ?_
  exact x_goto 27 dX10_laysBy_193 (by decide) (K)
theorem bX10_laysBy_196 {I : Nat → Nat → Int32} {L : Nat → Int64} {Q : Option Value → (Nat → Nat → Int32) → (Nat → Int64) → Prop}   (K : Q none I L) : XS mX10_laysBy 196 [] [] I L Q := by
  exact xs_end dX10_laysBy_196 rfl K
theorem bX10_shortens_0 {I : Nat → Nat → Int32} {L : Nat → Int64} {Q : Option Value → (Nat → Nat → Int32) → (Nat → Int64) → Prop} {a1 : Nat} {v2 : Int32} {v3 : Int32} {v4 : Int32}  (K : XS mX10_laysBy 0 [(0, .ref 49), (1, .ref a1), (2, .int v2), (3, .int v3), (4, .int v4)] [] I L (fun r I' L' => XS mX10_shortens 9 [(0, .ref 49), (1, .ref a1), (2, .int v2)] (r.toList ++ []) I' L' Q)) : XS mX10_shortens 0 [(0, .ref 49), (1, .ref a1), (2, .int v2), (3, .int v3), (4, .int v4)] [] I L Q := by
  refine x_aload_n 0 dX10_shortens_0 rfl rfl ?_
  refine x_aload_n 1 dX10_shortens_1 rfl rfl ?_
  refine x_iload_n 2 dX10_shortens_2 rfl rfl ?_
  refine x_iload_n 3 dX10_shortens_3 rfl rfl ?_
  refine x_iload 4 dX10_shortens_4 rfl ?_
  refine x_sub [0, 1, 2] rfl ?_
  exact xs_callV mX10_laysBy [.ref a1, .int v2, .int v3, .int v4] [] 49 10 4 _ rfl dX10_shortens_6 ml_X10_119 qX10_laysBy rfl ⟨Nat.le_of_ble_eq_true rfl, Nat.le_of_ble_eq_true rfl⟩ ⟨rfl, rfl⟩ (Nat.le_of_ble_eq_true rfl) sh_49 (by decide) rfl (Nat.le_of_ble_eq_true rfl) (K)
theorem bX10_shortens_9 {I : Nat → Nat → Int32} {L : Nat → Int64} {Q : Option Value → (Nat → Nat → Int32) → (Nat → Int64) → Prop} {a1 : Nat} {v2 : Int32}  (K : XS mX10_shortens 14 [(0, .ref 49), (1, .ref a1), (2, .int v2), (5, .int (v2 - (1 : Int32)))] [] I L Q) : XS mX10_shortens 9 [(0, .ref 49), (1, .ref a1), (2, .int v2)] [] I L Q := by
  refine x_iload_n 2 dX10_shortens_9 rfl rfl ?_
  refine x_iconst (v := (1 : Int32)) dX10_shortens_10 (by decide) ?_
  refine x_isub dX10_shortens_11 ?_
  refine x_istore [(0, .ref 49), (1, .ref a1), (2, .int v2), (5, .int (v2 - (1 : Int32)))] dX10_shortens_12 (Nat.le_of_ble_eq_true rfl) rfl ?_
  exact K
theorem bX10_shortens_14 {I : Nat → Nat → Int32} {L : Nat → Int64} {Q : Option Value → (Nat → Nat → Int32) → (Nat → Int64) → Prop} {a1 : Nat} {v2 : Int32} {v5 : Int32}  (K1 : (v5 < 0) → XS mX10_shortens 139 [(0, .ref 49), (1, .ref a1), (2, .int v2)] [] I L Q) (K2 : (¬ v5 < 0) → XS mX10_shortens 19 [(0, .ref 49), (1, .ref a1), (2, .int v2), (5, .int v5)] [] I L Q) : XS mX10_shortens 14 [(0, .ref 49), (1, .ref a1), (2, .int v2), (5, .int v5)] [] I L Q := by
  refine x_iload 3 dX10_shortens_14 rfl ?_
  exact x_if_lt 139 dX10_shortens_16 (by decide) (fun h => x_sub [0, 1, 2] rfl (K1 h)) (fun h => K2 h)
theorem bX10_shortens_19 {I : Nat → Nat → Int32} {L : Nat → Int64} {Q : Option Value → (Nat → Nat → Int32) → (Nat → Int64) → Prop} {a1 : Nat} {v2 : Int32} {v5 : Int32}  (K1 : (¬ v5 = (v2 - (1 : Int32))) → XS mX10_shortens 37 [(0, .ref 49), (1, .ref a1), (2, .int v2), (5, .int v5)] [.int v5, .ref 61] I L Q) (K2 : (v5 = (v2 - (1 : Int32))) → XS mX10_shortens 33 [(0, .ref 49), (1, .ref a1), (2, .int v2), (5, .int v5)] [.int v5, .ref 61] I L Q) : XS mX10_shortens 19 [(0, .ref 49), (1, .ref a1), (2, .int v2), (5, .int v5)] [] I L Q := by
  refine x_aload_n 0 dX10_shortens_19 rfl rfl ?_
  refine xs_getr dX10_shortens_20 fl_X10_47 sh_49 rfl rf_3154 ?_
  refine x_iload 3 dX10_shortens_23 rfl ?_
  refine x_iload 3 dX10_shortens_25 rfl ?_
  refine x_iload_n 2 dX10_shortens_27 rfl rfl ?_
  refine x_iconst (v := (1 : Int32)) dX10_shortens_28 (by decide) ?_
  refine x_isub dX10_shortens_29 ?_
  exact x_icmp_ne 37 dX10_shortens_30 (by decide) (fun h => K1 h) (fun h => K2 h)
theorem bX10_shortens_33 {I : Nat → Nat → Int32} {L : Nat → Int64} {Q : Option Value → (Nat → Nat → Int32) → (Nat → Int64) → Prop} {a1 : Nat} {v2 : Int32} {v5 : Int32} {s1 : Int32}  (K : XS mX10_shortens 40 [(0, .ref 49), (1, .ref a1), (2, .int v2), (5, .int v5)] [.int (0 : Int32), .int s1, .ref 61] I L Q) : XS mX10_shortens 33 [(0, .ref 49), (1, .ref a1), (2, .int v2), (5, .int v5)] [.int s1, .ref 61] I L Q := by
  refine x_iconst (v := (0 : Int32)) dX10_shortens_33 (by decide) ?_
  exact x_goto 40 dX10_shortens_34 (by decide) (K)
theorem bX10_shortens_37 {I : Nat → Nat → Int32} {L : Nat → Int64} {Q : Option Value → (Nat → Nat → Int32) → (Nat → Int64) → Prop} {a1 : Nat} {v2 : Int32} {v5 : Int32} {s1 : Int32}  (K : XS mX10_shortens 40 [(0, .ref 49), (1, .ref a1), (2, .int v2), (5, .int v5)] [.int (9999 : Int32), .int s1, .ref 61] I L Q) : XS mX10_shortens 37 [(0, .ref 49), (1, .ref a1), (2, .int v2), (5, .int v5)] [.int s1, .ref 61] I L Q := by
  refine x_sipush (v := (9999 : Int32)) dX10_shortens_37 (by decide) ?_
  exact K
theorem bX10_shortens_40 {I : Nat → Nat → Int32} {L : Nat → Int64} {Q : Option Value → (Nat → Nat → Int32) → (Nat → Int64) → Prop} {a1 : Nat} {v2 : Int32} {v5 : Int32} {s1 : Int32} {s2 : Int32} (hb1 : vp_in s1 8) (K : XS mX10_shortens 47 [(0, .ref 49), (1, .ref a1), (2, .int v2), (5, .int v5), (6, .int (v5 + (1 : Int32)))] [] (x_up I 3904 (s1.toNatClampNeg) s2) L Q) : XS mX10_shortens 40 [(0, .ref 49), (1, .ref a1), (2, .int v2), (5, .int v5)] [.int s2, .int s1, .ref 61] I L Q := by
  refine xs_iast 3904 (s1.toNatClampNeg) dX10_shortens_40 sh_61 rfl rfl hb1 ?_
  refine x_iload 3 dX10_shortens_41 rfl ?_
  refine x_iconst (v := (1 : Int32)) dX10_shortens_43 (by decide) ?_
  refine x_iadd dX10_shortens_44 ?_
  refine x_istore [(0, .ref 49), (1, .ref a1), (2, .int v2), (5, .int v5), (6, .int (v5 + (1 : Int32)))] dX10_shortens_45 (Nat.le_of_ble_eq_true rfl) rfl ?_
  exact K
theorem bX10_shortens_47 {I : Nat → Nat → Int32} {L : Nat → Int64} {Q : Option Value → (Nat → Nat → Int32) → (Nat → Int64) → Prop} {a1 : Nat} {v2 : Int32} {v5 : Int32} {v6 : Int32}  (K1 : (v2 ≤ v6) → XS mX10_shortens 133 [(0, .ref 49), (1, .ref a1), (2, .int v2), (5, .int v5)] [] I L Q) (K2 : (¬ v2 ≤ v6) → XS mX10_shortens 53 [(0, .ref 49), (1, .ref a1), (2, .int v2), (5, .int v5), (6, .int v6)] [] I L Q) : XS mX10_shortens 47 [(0, .ref 49), (1, .ref a1), (2, .int v2), (5, .int v5), (6, .int v6)] [] I L Q := by
  refine x_iload 4 dX10_shortens_47 rfl ?_
  refine x_iload_n 2 dX10_shortens_49 rfl rfl ?_
  exact x_icmp_ge 133 dX10_shortens_50 (by decide) (fun h => x_sub [0, 1, 2, 3] rfl (K1 h)) (fun h => K2 h)
theorem bX10_shortens_53 {I : Nat → Nat → Int32} {L : Nat → Int64} {Q : Option Value → (Nat → Nat → Int32) → (Nat → Int64) → Prop} {a1 : Nat} {v2 : Int32} {v5 : Int32} {v6 : Int32} (hb1 : vp_in (((8 : Int32) * v5) + v6) 64) (K1 : ((I 3840 ((((8 : Int32) * v5) + v6).toNatClampNeg)) = (-1 : Int32)) → XS mX10_shortens 93 [(0, .ref 49), (1, .ref a1), (2, .int v2), (5, .int v5), (6, .int v6)] [] I L Q) (K2 : (¬ (I 3840 ((((8 : Int32) * v5) + v6).toNatClampNeg)) = (-1 : Int32)) → XS mX10_shortens 70 [(0, .ref 49), (1, .ref a1), (2, .int v2), (5, .int v5), (6, .int v6)] [] I L Q) : XS mX10_shortens 53 [(0, .ref 49), (1, .ref a1), (2, .int v2), (5, .int v5), (6, .int v6)] [] I L Q := by
  refine x_aload_n 0 dX10_shortens_53 rfl rfl ?_
  refine xs_getr dX10_shortens_54 fl_X10_44 sh_49 rfl rf_3153 ?_
  refine x_bipush (v := (8 : Int32)) dX10_shortens_57 (by decide) ?_
  refine x_iload 3 dX10_shortens_59 rfl ?_
  refine x_imul dX10_shortens_61 ?_
  refine x_iload 4 dX10_shortens_62 rfl ?_
  refine x_iadd dX10_shortens_64 ?_
  refine xs_iald 3840 ((((8 : Int32) * v5) + v6).toNatClampNeg) dX10_shortens_65 sh_60 rfl rfl hb1 ?_
  refine x_iconst (v := (-1 : Int32)) dX10_shortens_66 (by decide) ?_
  exact x_icmp_eq 93 dX10_shortens_67 (by decide) (fun h => K1 h) (fun h => K2 h)
theorem bX10_shortens_70 {I : Nat → Nat → Int32} {L : Nat → Int64} {Q : Option Value → (Nat → Nat → Int32) → (Nat → Int64) → Prop} {a1 : Nat} {v2 : Int32} {v5 : Int32} {v6 : Int32} (hb1 : vp_in v6 8) (hb2 : vp_in v5 8) (K1 : ((I 3904 (v5.toNatClampNeg)) ≤ ((I 3904 (v6.toNatClampNeg)) + (1 : Int32))) → XS mX10_shortens 93 [(0, .ref 49), (1, .ref a1), (2, .int v2), (5, .int v5), (6, .int v6)] [] I L Q) (K2 : (¬ (I 3904 (v5.toNatClampNeg)) ≤ ((I 3904 (v6.toNatClampNeg)) + (1 : Int32))) → XS mX10_shortens 89 [(0, .ref 49), (1, .ref a1), (2, .int v2), (5, .int v5), (6, .int v6)] [] I L Q) : XS mX10_shortens 70 [(0, .ref 49), (1, .ref a1), (2, .int v2), (5, .int v5), (6, .int v6)] [] I L Q := by
  refine x_aload_n 0 dX10_shortens_70 rfl rfl ?_
  refine xs_getr dX10_shortens_71 fl_X10_47 sh_49 rfl rf_3154 ?_
  refine x_iload 4 dX10_shortens_74 rfl ?_
  refine xs_iald 3904 (v6.toNatClampNeg) dX10_shortens_76 sh_61 rfl rfl hb1 ?_
  refine x_iconst (v := (1 : Int32)) dX10_shortens_77 (by decide) ?_
  refine x_iadd dX10_shortens_78 ?_
  refine x_aload_n 0 dX10_shortens_79 rfl rfl ?_
  refine xs_getr dX10_shortens_80 fl_X10_47 sh_49 rfl rf_3154 ?_
  refine x_iload 3 dX10_shortens_83 rfl ?_
  refine xs_iald 3904 (v5.toNatClampNeg) dX10_shortens_85 sh_61 rfl rfl hb2 ?_
  exact x_icmp_ge 93 dX10_shortens_86 (by decide) (fun h => K1 h) (fun h => K2 h)
theorem bX10_shortens_89 {I : Nat → Nat → Int32} {L : Nat → Int64} {Q : Option Value → (Nat → Nat → Int32) → (Nat → Int64) → Prop} {a1 : Nat} {v2 : Int32} {v5 : Int32} {v6 : Int32}  (K : XS mX10_shortens 94 [(0, .ref 49), (1, .ref a1), (2, .int v2), (5, .int v5), (6, .int v6)] [.int (1 : Int32)] I L Q) : XS mX10_shortens 89 [(0, .ref 49), (1, .ref a1), (2, .int v2), (5, .int v5), (6, .int v6)] [] I L Q := by
  refine x_iconst (v := (1 : Int32)) dX10_shortens_89 (by decide) ?_
  exact x_goto 94 dX10_shortens_90 (by decide) (K)
theorem bX10_shortens_93 {I : Nat → Nat → Int32} {L : Nat → Int64} {Q : Option Value → (Nat → Nat → Int32) → (Nat → Int64) → Prop} {a1 : Nat} {v2 : Int32} {v5 : Int32} {v6 : Int32}  (K : XS mX10_shortens 94 [(0, .ref 49), (1, .ref a1), (2, .int v2), (5, .int v5), (6, .int v6)] [.int (0 : Int32)] I L Q) : XS mX10_shortens 93 [(0, .ref 49), (1, .ref a1), (2, .int v2), (5, .int v5), (6, .int v6)] [] I L Q := by
  refine x_iconst (v := (0 : Int32)) dX10_shortens_93 (by decide) ?_
  exact K
theorem bX10_shortens_94 {I : Nat → Nat → Int32} {L : Nat → Int64} {Q : Option Value → (Nat → Nat → Int32) → (Nat → Int64) → Prop} {a1 : Nat} {v2 : Int32} {v5 : Int32} {v6 : Int32} {s0 : Int32}  (K1 : (s0 = 0) → XS mX10_shortens 119 [(0, .ref 49), (1, .ref a1), (2, .int v2), (5, .int v5), (6, .int v6)] [.int v5, .ref 61] I L Q) (K2 : (¬ s0 = 0) → XS mX10_shortens 107 [(0, .ref 49), (1, .ref a1), (2, .int v2), (5, .int v5), (6, .int v6)] [.int v5, .ref 61] I L Q) : XS mX10_shortens 94 [(0, .ref 49), (1, .ref a1), (2, .int v2), (5, .int v5), (6, .int v6)] [.int s0] I L Q := by
  refine x_istore [(0, .ref 49), (1, .ref a1), (2, .int v2), (5, .int v5), (6, .int v6), (7, .int s0)] dX10_shortens_94 (Nat.le_of_ble_eq_true rfl) rfl ?_
  refine x_aload_n 0 dX10_shortens_96 rfl rfl ?_
  refine xs_getr dX10_shortens_97 fl_X10_47 sh_49 rfl rf_3154 ?_
  refine x_iload 3 dX10_shortens_100 rfl ?_
  refine x_iload 5 dX10_shortens_102 rfl ?_
  exact x_if_eq 119 dX10_shortens_104 (by decide) (fun h => x_sub [0, 1, 2, 3, 4] rfl (K1 h)) (fun h => x_sub [0, 1, 2, 3, 4] rfl (K2 h))
theorem bX10_shortens_107 {I : Nat → Nat → Int32} {L : Nat → Int64} {Q : Option Value → (Nat → Nat → Int32) → (Nat → Int64) → Prop} {a1 : Nat} {v2 : Int32} {v5 : Int32} {v6 : Int32} {s1 : Int32} (hb1 : vp_in v6 8) (K : XS mX10_shortens 126 [(0, .ref 49), (1, .ref a1), (2, .int v2), (5, .int v5), (6, .int v6)] [.int ((I 3904 (v6.toNatClampNeg)) + (1 : Int32)), .int s1, .ref 61] I L Q) : XS mX10_shortens 107 [(0, .ref 49), (1, .ref a1), (2, .int v2), (5, .int v5), (6, .int v6)] [.int s1, .ref 61] I L Q := by
  refine x_aload_n 0 dX10_shortens_107 rfl rfl ?_
  refine xs_getr dX10_shortens_108 fl_X10_47 sh_49 rfl rf_3154 ?_
  refine x_iload 4 dX10_shortens_111 rfl ?_
  refine xs_iald 3904 (v6.toNatClampNeg) dX10_shortens_113 sh_61 rfl rfl hb1 ?_
  refine x_iconst (v := (1 : Int32)) dX10_shortens_114 (by decide) ?_
  refine x_iadd dX10_shortens_115 ?_
  exact x_goto 126 dX10_shortens_116 (by decide) (K)
theorem bX10_shortens_119 {I : Nat → Nat → Int32} {L : Nat → Int64} {Q : Option Value → (Nat → Nat → Int32) → (Nat → Int64) → Prop} {a1 : Nat} {v2 : Int32} {v5 : Int32} {v6 : Int32} {s1 : Int32} (hb1 : vp_in v5 8) (K : XS mX10_shortens 126 [(0, .ref 49), (1, .ref a1), (2, .int v2), (5, .int v5), (6, .int v6)] [.int (I 3904 (v5.toNatClampNeg)), .int s1, .ref 61] I L Q) : XS mX10_shortens 119 [(0, .ref 49), (1, .ref a1), (2, .int v2), (5, .int v5), (6, .int v6)] [.int s1, .ref 61] I L Q := by
  refine x_aload_n 0 dX10_shortens_119 rfl rfl ?_
  refine xs_getr dX10_shortens_120 fl_X10_47 sh_49 rfl rf_3154 ?_
  refine x_iload 3 dX10_shortens_123 rfl ?_
  refine xs_iald 3904 (v5.toNatClampNeg) dX10_shortens_125 sh_61 rfl rfl hb1 ?_
  exact K
theorem bX10_shortens_126 {I : Nat → Nat → Int32} {L : Nat → Int64} {Q : Option Value → (Nat → Nat → Int32) → (Nat → Int64) → Prop} {a1 : Nat} {v2 : Int32} {v5 : Int32} {v6 : Int32} {s1 : Int32} {s2 : Int32} (hb1 : vp_in s1 8) (K : XS mX10_shortens 47 [(0, .ref 49), (1, .ref a1), (2, .int v2), (5, .int v5), (6, .int (v6 + (1 : Int32)))] [] (x_up I 3904 (s1.toNatClampNeg) s2) L Q) : XS mX10_shortens 126 [(0, .ref 49), (1, .ref a1), (2, .int v2), (5, .int v5), (6, .int v6)] [.int s2, .int s1, .ref 61] I L Q := by
  refine xs_iast 3904 (s1.toNatClampNeg) dX10_shortens_126 sh_61 rfl rfl hb1 ?_
  refine x_iinc 4 (v6 + (1 : Int32)) [(0, .ref 49), (1, .ref a1), (2, .int v2), (5, .int v5), (6, .int (v6 + (1 : Int32)))] dX10_shortens_127 rfl rfl (Nat.le_of_ble_eq_true rfl) rfl ?_
  exact x_goto 47 dX10_shortens_130 (by decide) (K)
theorem bX10_shortens_133 {I : Nat → Nat → Int32} {L : Nat → Int64} {Q : Option Value → (Nat → Nat → Int32) → (Nat → Int64) → Prop} {a1 : Nat} {v2 : Int32} {v5 : Int32}  (K : XS mX10_shortens 14 [(0, .ref 49), (1, .ref a1), (2, .int v2), (5, .int (v5 + (-1 : Int32)))] [] I L Q) : XS mX10_shortens 133 [(0, .ref 49), (1, .ref a1), (2, .int v2), (5, .int v5)] [] I L Q := by
  refine x_iinc 3 (v5 + (-1 : Int32)) [(0, .ref 49), (1, .ref a1), (2, .int v2), (5, .int (v5 + (-1 : Int32)))] dX10_shortens_133 rfl rfl (Nat.le_of_ble_eq_true rfl) rfl ?_
  exact x_goto 14 dX10_shortens_136 (by decide) (K)
theorem bX10_shortens_139 {I : Nat → Nat → Int32} {L : Nat → Int64} {Q : Option Value → (Nat → Nat → Int32) → (Nat → Int64) → Prop} {a1 : Nat} {v2 : Int32}  (K1 : (((x_up I 3155 0 (0 : Int32)) 3904 0) < (9999 : Int32)) → XS mX10_shortens 158 [(0, .ref 49), (1, .ref a1), (2, .int v2)] [] (x_up I 3155 0 (0 : Int32)) L Q) (K2 : (¬ ((x_up I 3155 0 (0 : Int32)) 3904 0) < (9999 : Int32)) → XS mX10_shortens 156 [] [] (x_up I 3155 0 (0 : Int32)) L Q) : XS mX10_shortens 139 [(0, .ref 49), (1, .ref a1), (2, .int v2)] [] I L Q := by
  refine x_aload_n 0 dX10_shortens_139 rfl rfl ?_
  refine x_iconst (v := (0 : Int32)) dX10_shortens_140 (by decide) ?_
  refine xs_puti 3155 dX10_shortens_141 fl_X10_123 sh_49 rfl rfl rfl ?_
  refine x_aload_n 0 dX10_shortens_144 rfl rfl ?_
  refine xs_getr dX10_shortens_145 fl_X10_47 sh_49 rfl rf_3154 ?_
  refine x_iconst (v := (0 : Int32)) dX10_shortens_148 (by decide) ?_
  refine xs_iald 3904 (0) dX10_shortens_149 sh_61 rfl (by decide) (x_vpin (by decide)) ?_
  refine x_sipush (v := (9999 : Int32)) dX10_shortens_150 (by decide) ?_
  exact x_icmp_lt 158 dX10_shortens_153 (by decide) (fun h => K1 h) (fun h => x_sub [] rfl (K2 h))
theorem bX10_shortens_156 {I : Nat → Nat → Int32} {L : Nat → Int64} {Q : Option Value → (Nat → Nat → Int32) → (Nat → Int64) → Prop}   (K : Q (some (.int (0 : Int32))) I L) : XS mX10_shortens 156 [] [] I L Q := by
  refine x_iconst (v := (0 : Int32)) dX10_shortens_156 (by decide) ?_
  exact xs_iret dX10_shortens_157 rfl (x_nar _ (Or.inl rfl)) K
theorem bX10_shortens_158 {I : Nat → Nat → Int32} {L : Nat → Int64} {Q : Option Value → (Nat → Nat → Int32) → (Nat → Int64) → Prop} {a1 : Nat} {v2 : Int32}  (K : XS mX10_shortens 161 [(0, .ref 49), (1, .ref a1), (2, .int v2), (5, .int (0 : Int32))] [] I L Q) : XS mX10_shortens 158 [(0, .ref 49), (1, .ref a1), (2, .int v2)] [] I L Q := by
  refine x_iconst (v := (0 : Int32)) dX10_shortens_158 (by decide) ?_
  refine x_istore [(0, .ref 49), (1, .ref a1), (2, .int v2), (5, .int (0 : Int32))] dX10_shortens_159 (Nat.le_of_ble_eq_true rfl) rfl ?_
  exact K
theorem bX10_shortens_161 {I : Nat → Nat → Int32} {L : Nat → Int64} {Q : Option Value → (Nat → Nat → Int32) → (Nat → Int64) → Prop} {a1 : Nat} {v2 : Int32} {v5 : Int32}  (K1 : ((v2 - (1 : Int32)) ≤ v5) → XS mX10_shortens 300 [] [] I L Q) (K2 : (¬ (v2 - (1 : Int32)) ≤ v5) → XS mX10_shortens 169 [(0, .ref 49), (1, .ref a1), (2, .int v2), (5, .int v5)] [] I L Q) : XS mX10_shortens 161 [(0, .ref 49), (1, .ref a1), (2, .int v2), (5, .int v5)] [] I L Q := by
  refine x_iload 3 dX10_shortens_161 rfl ?_
  refine x_iload_n 2 dX10_shortens_163 rfl rfl ?_
  refine x_iconst (v := (1 : Int32)) dX10_shortens_164 (by decide) ?_
  refine x_isub dX10_shortens_165 ?_
  exact x_icmp_ge 300 dX10_shortens_166 (by decide) (fun h => x_sub [] rfl (K1 h)) (fun h => K2 h)
theorem bX10_shortens_169 {I : Nat → Nat → Int32} {L : Nat → Int64} {Q : Option Value → (Nat → Nat → Int32) → (Nat → Int64) → Prop} {a1 : Nat} {v2 : Int32} {v5 : Int32}  (K : XS mX10_shortens 174 [(0, .ref 49), (1, .ref a1), (2, .int v2), (5, .int v5), (6, .int (v2 - (1 : Int32)))] [] I L Q) : XS mX10_shortens 169 [(0, .ref 49), (1, .ref a1), (2, .int v2), (5, .int v5)] [] I L Q := by
  refine x_iload_n 2 dX10_shortens_169 rfl rfl ?_
  refine x_iconst (v := (1 : Int32)) dX10_shortens_170 (by decide) ?_
  refine x_isub dX10_shortens_171 ?_
  refine x_istore [(0, .ref 49), (1, .ref a1), (2, .int v2), (5, .int v5), (6, .int (v2 - (1 : Int32)))] dX10_shortens_172 (Nat.le_of_ble_eq_true rfl) rfl ?_
  exact K
theorem bX10_shortens_174 {I : Nat → Nat → Int32} {L : Nat → Int64} {Q : Option Value → (Nat → Nat → Int32) → (Nat → Int64) → Prop} {a1 : Nat} {v2 : Int32} {v5 : Int32} {v6 : Int32} (hb1 : vp_in (((8 : Int32) * v5) + v6) 64) (K1 : ((I 3840 ((((8 : Int32) * v5) + v6).toNatClampNeg)) = (-1 : Int32)) → XS mX10_shortens 210 [(0, .ref 49), (1, .ref a1), (2, .int v2), (5, .int v5), (6, .int v6)] [] I L Q) (K2 : (¬ (I 3840 ((((8 : Int32) * v5) + v6).toNatClampNeg)) = (-1 : Int32)) → XS mX10_shortens 191 [(0, .ref 49), (1, .ref a1), (2, .int v2), (5, .int v5), (6, .int v6)] [] I L Q) : XS mX10_shortens 174 [(0, .ref 49), (1, .ref a1), (2, .int v2), (5, .int v5), (6, .int v6)] [] I L Q := by
  refine x_aload_n 0 dX10_shortens_174 rfl rfl ?_
  refine xs_getr dX10_shortens_175 fl_X10_44 sh_49 rfl rf_3153 ?_
  refine x_bipush (v := (8 : Int32)) dX10_shortens_178 (by decide) ?_
  refine x_iload 3 dX10_shortens_180 rfl ?_
  refine x_imul dX10_shortens_182 ?_
  refine x_iload 4 dX10_shortens_183 rfl ?_
  refine x_iadd dX10_shortens_185 ?_
  refine xs_iald 3840 ((((8 : Int32) * v5) + v6).toNatClampNeg) dX10_shortens_186 sh_60 rfl rfl hb1 ?_
  refine x_iconst (v := (-1 : Int32)) dX10_shortens_187 (by decide) ?_
  exact x_icmp_eq 210 dX10_shortens_188 (by decide) (fun h => K1 h) (fun h => K2 h)
theorem bX10_shortens_191 {I : Nat → Nat → Int32} {L : Nat → Int64} {Q : Option Value → (Nat → Nat → Int32) → (Nat → Int64) → Prop} {a1 : Nat} {v2 : Int32} {v5 : Int32} {v6 : Int32} (hb1 : vp_in v6 8) (hb2 : vp_in v5 8) (K1 : (((I 3904 (v6.toNatClampNeg)) + (1 : Int32)) = (I 3904 (v5.toNatClampNeg))) → XS mX10_shortens 216 [(0, .ref 49), (1, .ref a1), (2, .int v2), (5, .int v5), (6, .int v6)] [] I L Q) (K2 : (¬ ((I 3904 (v6.toNatClampNeg)) + (1 : Int32)) = (I 3904 (v5.toNatClampNeg))) → XS mX10_shortens 210 [(0, .ref 49), (1, .ref a1), (2, .int v2), (5, .int v5), (6, .int v6)] [] I L Q) : XS mX10_shortens 191 [(0, .ref 49), (1, .ref a1), (2, .int v2), (5, .int v5), (6, .int v6)] [] I L Q := by
  refine x_aload_n 0 dX10_shortens_191 rfl rfl ?_
  refine xs_getr dX10_shortens_192 fl_X10_47 sh_49 rfl rf_3154 ?_
  refine x_iload 4 dX10_shortens_195 rfl ?_
  refine xs_iald 3904 (v6.toNatClampNeg) dX10_shortens_197 sh_61 rfl rfl hb1 ?_
  refine x_iconst (v := (1 : Int32)) dX10_shortens_198 (by decide) ?_
  refine x_iadd dX10_shortens_199 ?_
  refine x_aload_n 0 dX10_shortens_200 rfl rfl ?_
  refine xs_getr dX10_shortens_201 fl_X10_47 sh_49 rfl rf_3154 ?_
  refine x_iload 3 dX10_shortens_204 rfl ?_
  refine xs_iald 3904 (v5.toNatClampNeg) dX10_shortens_206 sh_61 rfl rfl hb2 ?_
  exact x_icmp_eq 216 dX10_shortens_207 (by decide) (fun h => K1 h) (fun h => K2 h)
theorem bX10_shortens_210 {I : Nat → Nat → Int32} {L : Nat → Int64} {Q : Option Value → (Nat → Nat → Int32) → (Nat → Int64) → Prop} {a1 : Nat} {v2 : Int32} {v5 : Int32} {v6 : Int32}  (K : XS mX10_shortens 174 [(0, .ref 49), (1, .ref a1), (2, .int v2), (5, .int v5), (6, .int (v6 + (-1 : Int32)))] [] I L Q) : XS mX10_shortens 210 [(0, .ref 49), (1, .ref a1), (2, .int v2), (5, .int v5), (6, .int v6)] [] I L Q := by
  refine x_iinc 4 (v6 + (-1 : Int32)) [(0, .ref 49), (1, .ref a1), (2, .int v2), (5, .int v5), (6, .int (v6 + (-1 : Int32)))] dX10_shortens_210 rfl rfl (Nat.le_of_ble_eq_true rfl) rfl ?_
  exact x_goto 174 dX10_shortens_213 (by decide) (K)
theorem bX10_shortens_216 {I : Nat → Nat → Int32} {L : Nat → Int64} {Q : Option Value → (Nat → Nat → Int32) → (Nat → Int64) → Prop} {a1 : Nat} {v2 : Int32} {v5 : Int32} {v6 : Int32} (hb1 : vp_in (((8 : Int32) * v5) + v6) 64) (hb2 : vp_in (I 3155 0) 8) (hb3 : vp_in (((8 : Int32) * v5) + v6) 64) (K1 : (¬ ((x_up I 3968 ((I 3155 0).toNatClampNeg) (I 3840 ((((8 : Int32) * v5) + v6).toNatClampNeg))) 3840 ((((8 : Int32) * v5) + v6).toNatClampNeg)) = (2 : Int32)) → XS mX10_shortens 278 [(0, .ref 49), (1, .ref a1), (2, .int v2), (6, .int v6)] [.int ((x_up I 3968 ((I 3155 0).toNatClampNeg) (I 3840 ((((8 : Int32) * v5) + v6).toNatClampNeg))) 3155 0), .ref 63] (x_up I 3968 ((I 3155 0).toNatClampNeg) (I 3840 ((((8 : Int32) * v5) + v6).toNatClampNeg))) L Q) (K2 : (((x_up I 3968 ((I 3155 0).toNatClampNeg) (I 3840 ((((8 : Int32) * v5) + v6).toNatClampNeg))) 3840 ((((8 : Int32) * v5) + v6).toNatClampNeg)) = (2 : Int32)) → XS mX10_shortens 263 [(0, .ref 49), (1, .ref a1), (2, .int v2), (5, .int v5), (6, .int v6)] [.int ((x_up I 3968 ((I 3155 0).toNatClampNeg) (I 3840 ((((8 : Int32) * v5) + v6).toNatClampNeg))) 3155 0), .ref 63] (x_up I 3968 ((I 3155 0).toNatClampNeg) (I 3840 ((((8 : Int32) * v5) + v6).toNatClampNeg))) L Q) : XS mX10_shortens 216 [(0, .ref 49), (1, .ref a1), (2, .int v2), (5, .int v5), (6, .int v6)] [] I L Q := by
  refine x_aload_n 0 dX10_shortens_216 rfl rfl ?_
  refine xs_getr dX10_shortens_217 fl_X10_50 sh_49 rfl rf_3156 ?_
  refine x_aload_n 0 dX10_shortens_220 rfl rfl ?_
  refine xs_geti 3155 dX10_shortens_221 fl_X10_123 sh_49 rfl rfl ?_
  refine x_aload_n 0 dX10_shortens_224 rfl rfl ?_
  refine xs_getr dX10_shortens_225 fl_X10_44 sh_49 rfl rf_3153 ?_
  refine x_bipush (v := (8 : Int32)) dX10_shortens_228 (by decide) ?_
  refine x_iload 3 dX10_shortens_230 rfl ?_
  refine x_imul dX10_shortens_232 ?_
  refine x_iload 4 dX10_shortens_233 rfl ?_
  refine x_iadd dX10_shortens_235 ?_
  refine xs_iald 3840 ((((8 : Int32) * v5) + v6).toNatClampNeg) dX10_shortens_236 sh_60 rfl rfl hb1 ?_
  refine xs_iast 3968 ((I 3155 0).toNatClampNeg) dX10_shortens_237 sh_62 rfl rfl hb2 ?_
  refine x_aload_n 0 dX10_shortens_238 rfl rfl ?_
  refine xs_getr dX10_shortens_239 fl_X10_53 sh_49 rfl rf_3157 ?_
  refine x_aload_n 0 dX10_shortens_242 rfl rfl ?_
  refine xs_geti 3155 dX10_shortens_243 fl_X10_123 sh_49 rfl rfl ?_
  refine x_aload_n 0 dX10_shortens_246 rfl rfl ?_
  refine xs_getr dX10_shortens_247 fl_X10_44 sh_49 rfl rf_3153 ?_
  refine x_bipush (v := (8 : Int32)) dX10_shortens_250 (by decide) ?_
  refine x_iload 3 dX10_shortens_252 rfl ?_
  refine x_imul dX10_shortens_254 ?_
  refine x_iload 4 dX10_shortens_255 rfl ?_
  refine x_iadd dX10_shortens_257 ?_
  refine xs_iald 3840 ((((8 : Int32) * v5) + v6).toNatClampNeg) dX10_shortens_258 sh_60 rfl rfl hb3 ?_
  refine x_iconst (v := (2 : Int32)) dX10_shortens_259 (by decide) ?_
  exact x_icmp_ne 278 dX10_shortens_260 (by decide) (fun h => x_sub [0, 1, 2, 4] rfl (K1 h)) (fun h => K2 h)
theorem bX10_shortens_263 {I : Nat → Nat → Int32} {L : Nat → Int64} {Q : Option Value → (Nat → Nat → Int32) → (Nat → Int64) → Prop} {a1 : Nat} {v2 : Int32} {v5 : Int32} {v6 : Int32} {s1 : Int32} {n_a1 : Nat} (hs_a1 : x_SH[a1]? = some (1, n_a1)) (hb1 : vp_in v5 n_a1) (hb2 : vp_in v6 n_a1) (K : XS mX10_linkOf 0 [(0, .ref 49), (1, .int (I (64 * a1) (v5.toNatClampNeg))), (2, .int (I (64 * a1) (v6.toNatClampNeg)))] [] I L (fun r I' L' => XS mX10_shortens 275 [(0, .ref 49), (1, .ref a1), (2, .int v2), (6, .int v6)] (r.toList ++ [.int s1, .ref 63]) I' L' Q)) : XS mX10_shortens 263 [(0, .ref 49), (1, .ref a1), (2, .int v2), (5, .int v5), (6, .int v6)] [.int s1, .ref 63] I L Q := by
  refine x_aload_n 0 dX10_shortens_263 rfl rfl ?_
  refine x_aload_n 1 dX10_shortens_264 rfl rfl ?_
  refine x_iload 3 dX10_shortens_265 rfl ?_
  refine xs_iald (64 * a1) (v5.toNatClampNeg) dX10_shortens_267 hs_a1 rfl rfl hb1 ?_
  refine x_aload_n 1 dX10_shortens_268 rfl rfl ?_
  refine x_iload 4 dX10_shortens_269 rfl ?_
  refine xs_iald (64 * a1) (v6.toNatClampNeg) dX10_shortens_271 hs_a1 rfl rfl hb2 ?_
  refine x_sub [0, 1, 2, 4] rfl ?_
  exact xs_callV mX10_linkOf [.int (I (64 * a1) (v5.toNatClampNeg)), .int (I (64 * a1) (v6.toNatClampNeg))] [.int s1, .ref 63] 49 10 2 _ rfl dX10_shortens_272 ml_X10_101 qX10_linkOf rfl ⟨Nat.le_of_ble_eq_true rfl, Nat.le_of_ble_eq_true rfl⟩ ⟨rfl, rfl⟩ (Nat.le_of_ble_eq_true rfl) sh_49 (by decide) rfl (Nat.le_of_ble_eq_true rfl) (K)
theorem bX10_shortens_275 {I : Nat → Nat → Int32} {L : Nat → Int64} {Q : Option Value → (Nat → Nat → Int32) → (Nat → Int64) → Prop} {a1 : Nat} {v2 : Int32} {v6 : Int32} {s1 : Int32} {s2 : Int32}  (K : XS mX10_shortens 282 [(0, .ref 49), (1, .ref a1), (2, .int v2), (6, .int v6)] [.int s2, .int s1, .ref 63] I L Q) : XS mX10_shortens 275 [(0, .ref 49), (1, .ref a1), (2, .int v2), (6, .int v6)] [.int s2, .int s1, .ref 63] I L Q := by
  exact x_goto 282 dX10_shortens_275 (by decide) (K)
theorem bX10_shortens_278 {I : Nat → Nat → Int32} {L : Nat → Int64} {Q : Option Value → (Nat → Nat → Int32) → (Nat → Int64) → Prop} {a1 : Nat} {v2 : Int32} {v6 : Int32} {s1 : Int32} {n_a1 : Nat} (hs_a1 : x_SH[a1]? = some (1, n_a1)) (hb1 : vp_in v6 n_a1) (K : XS mX10_shortens 282 [(0, .ref 49), (1, .ref a1), (2, .int v2), (6, .int v6)] [.int (I (64 * a1) (v6.toNatClampNeg)), .int s1, .ref 63] I L Q) : XS mX10_shortens 278 [(0, .ref 49), (1, .ref a1), (2, .int v2), (6, .int v6)] [.int s1, .ref 63] I L Q := by
  refine x_aload_n 1 dX10_shortens_278 rfl rfl ?_
  refine x_iload 3 dX10_shortens_279 rfl ?_
  refine xs_iald (64 * a1) (v6.toNatClampNeg) dX10_shortens_281 hs_a1 rfl rfl hb1 ?_
  exact K
theorem bX10_shortens_282 {I : Nat → Nat → Int32} {L : Nat → Int64} {Q : Option Value → (Nat → Nat → Int32) → (Nat → Int64) → Prop} {a1 : Nat} {v2 : Int32} {v6 : Int32} {s1 : Int32} {s2 : Int32} (hb1 : vp_in s1 8) (K : XS mX10_shortens 161 [(0, .ref 49), (1, .ref a1), (2, .int v2), (5, .int v6)] [] (x_up (x_up I 4032 (s1.toNatClampNeg) s2) 3155 0 (((x_up I 4032 (s1.toNatClampNeg) s2) 3155 0) + (1 : Int32))) L Q) : XS mX10_shortens 282 [(0, .ref 49), (1, .ref a1), (2, .int v2), (6, .int v6)] [.int s2, .int s1, .ref 63] I L Q := by
  refine xs_iast 4032 (s1.toNatClampNeg) dX10_shortens_282 sh_63 rfl rfl hb1 ?_
  refine x_aload_n 0 dX10_shortens_283 rfl rfl ?_
  refine x_dup dX10_shortens_284 rfl ?_
  refine xs_geti 3155 dX10_shortens_285 fl_X10_123 sh_49 rfl rfl ?_
  refine x_iconst (v := (1 : Int32)) dX10_shortens_288 (by decide) ?_
  refine x_iadd dX10_shortens_289 ?_
  refine xs_puti 3155 dX10_shortens_290 fl_X10_123 sh_49 rfl rfl rfl ?_
  refine x_iload 3 dX10_shortens_293 rfl ?_
  refine x_istore [(0, .ref 49), (1, .ref a1), (2, .int v2), (5, .int v6), (6, .int v6)] dX10_shortens_295 (Nat.le_of_ble_eq_true rfl) rfl ?_
  exact x_goto 161 dX10_shortens_297 (by decide) (x_sub [0, 1, 2, 3] rfl (K))
theorem bX10_shortens_300 {I : Nat → Nat → Int32} {L : Nat → Int64} {Q : Option Value → (Nat → Nat → Int32) → (Nat → Int64) → Prop}   (K : Q (some (.int (1 : Int32))) I L) : XS mX10_shortens 300 [] [] I L Q := by
  refine x_iconst (v := (1 : Int32)) dX10_shortens_300 (by decide) ?_
  exact xs_iret dX10_shortens_301 rfl (x_nar _ (Or.inr rfl)) K
theorem bX10_repairs_0 {I : Nat → Nat → Int32} {L : Nat → Int64} {Q : Option Value → (Nat → Nat → Int32) → (Nat → Int64) → Prop} {v1 : Int32} {v2 : Int32} {v3 : Int32} (hb1 : vp_in ((29 : Int32) + v1) 37) (K : XS mX10_walks 0 [(0, .ref 49), (1, .int v1), (2, .int v3), (3, .int (0 : Int32)), (4, .int ((I 3392 (((29 : Int32) + v1).toNatClampNeg)) &&& (((1 : Int32) <<< (v2 &&& 31)) ^^^ (-1 : Int32))))] [] I L (fun r I' L' => XS mX10_repairs 22 [(0, .ref 49), (1, .int v1)] (r.toList ++ []) I' L' Q)) : XS mX10_repairs 0 [(0, .ref 49), (1, .int v1), (2, .int v2), (3, .int v3)] [] I L Q := by
  refine x_aload_n 0 dX10_repairs_0 rfl rfl ?_
  refine x_iload_n 1 dX10_repairs_1 rfl rfl ?_
  refine x_iload_n 3 dX10_repairs_2 rfl rfl ?_
  refine x_iconst (v := (0 : Int32)) dX10_repairs_3 (by decide) ?_
  refine x_aload_n 0 dX10_repairs_4 rfl rfl ?_
  refine xs_getr dX10_repairs_5 fl_X10_23 sh_49 rfl rf_3141 ?_
  refine x_bipush (v := (29 : Int32)) dX10_repairs_8 (by decide) ?_
  refine x_iload_n 1 dX10_repairs_10 rfl rfl ?_
  refine x_iadd dX10_repairs_11 ?_
  refine xs_iald 3392 (((29 : Int32) + v1).toNatClampNeg) dX10_repairs_12 sh_53 rfl rfl hb1 ?_
  refine x_iconst (v := (1 : Int32)) dX10_repairs_13 (by decide) ?_
  refine x_iload_n 2 dX10_repairs_14 rfl rfl ?_
  refine x_ishl dX10_repairs_15 ?_
  refine x_iconst (v := (-1 : Int32)) dX10_repairs_16 (by decide) ?_
  refine x_ixor dX10_repairs_17 ?_
  refine x_iand dX10_repairs_18 ?_
  refine x_sub [0, 1] rfl ?_
  exact xs_callV mX10_walks [.int v1, .int v3, .int (0 : Int32), .int ((I 3392 (((29 : Int32) + v1).toNatClampNeg)) &&& (((1 : Int32) <<< (v2 &&& 31)) ^^^ (-1 : Int32)))] [] 49 10 4 _ rfl dX10_repairs_19 ml_X10_126 qX10_walks rfl ⟨Nat.le_of_ble_eq_true rfl, Nat.le_of_ble_eq_true rfl⟩ ⟨rfl, rfl⟩ (Nat.le_of_ble_eq_true rfl) sh_49 (by decide) rfl (Nat.le_of_ble_eq_true rfl) (K)
theorem bX10_repairs_22 {I : Nat → Nat → Int32} {L : Nat → Int64} {Q : Option Value → (Nat → Nat → Int32) → (Nat → Int64) → Prop} {v1 : Int32} {s0 : Int32}  (K1 : (s0 = 0) → XS mX10_repairs 54 [] [] I L Q) (K2 : (¬ s0 = 0) → XS mX10_repairs 25 [(0, .ref 49), (1, .int v1)] [] I L Q) : XS mX10_repairs 22 [(0, .ref 49), (1, .int v1)] [.int s0] I L Q := by
  exact x_if_eq 54 dX10_repairs_22 (by decide) (fun h => x_sub [] rfl (K1 h)) (fun h => K2 h)
theorem bX10_repairs_25 {I : Nat → Nat → Int32} {L : Nat → Int64} {Q : Option Value → (Nat → Nat → Int32) → (Nat → Int64) → Prop} {v1 : Int32} (hb1 : vp_in ((29 : Int32) + v1) 37) (K : XS mX10_shortens 0 [(0, .ref 49), (1, .ref 59), (2, .int (I 3151 0)), (3, .int (I 3392 (((29 : Int32) + v1).toNatClampNeg))), (4, .int (5 : Int32))] [] I L (fun r I' L' => XS mX10_repairs 47 [] (r.toList ++ []) I' L' Q)) : XS mX10_repairs 25 [(0, .ref 49), (1, .int v1)] [] I L Q := by
  refine x_aload_n 0 dX10_repairs_25 rfl rfl ?_
  refine x_aload_n 0 dX10_repairs_26 rfl rfl ?_
  refine xs_getr dX10_repairs_27 fl_X10_41 sh_49 rfl rf_3152 ?_
  refine x_aload_n 0 dX10_repairs_30 rfl rfl ?_
  refine xs_geti 3151 dX10_repairs_31 fl_X10_108 sh_49 rfl rfl ?_
  refine x_aload_n 0 dX10_repairs_34 rfl rfl ?_
  refine xs_getr dX10_repairs_35 fl_X10_23 sh_49 rfl rf_3141 ?_
  refine x_bipush (v := (29 : Int32)) dX10_repairs_38 (by decide) ?_
  refine x_iload_n 1 dX10_repairs_40 rfl rfl ?_
  refine x_iadd dX10_repairs_41 ?_
  refine xs_iald 3392 (((29 : Int32) + v1).toNatClampNeg) dX10_repairs_42 sh_53 rfl rfl hb1 ?_
  refine x_iconst (v := (5 : Int32)) dX10_repairs_43 (by decide) ?_
  refine x_sub [] rfl ?_
  exact xs_callV mX10_shortens [.ref 59, .int (I 3151 0), .int (I 3392 (((29 : Int32) + v1).toNatClampNeg)), .int (5 : Int32)] [] 49 10 4 _ rfl dX10_repairs_44 ml_X10_130 qX10_shortens rfl ⟨Nat.le_of_ble_eq_true rfl, Nat.le_of_ble_eq_true rfl⟩ ⟨rfl, rfl⟩ (Nat.le_of_ble_eq_true rfl) sh_49 (by decide) rfl (Nat.le_of_ble_eq_true rfl) (K)
theorem bX10_repairs_47 {I : Nat → Nat → Int32} {L : Nat → Int64} {Q : Option Value → (Nat → Nat → Int32) → (Nat → Int64) → Prop} {s0 : Int32}  (K1 : (s0 = 0) → XS mX10_repairs 54 [] [] I L Q) (K2 : (¬ s0 = 0) → XS mX10_repairs 50 [] [] I L Q) : XS mX10_repairs 47 [] [.int s0] I L Q := by
  exact x_if_eq 54 dX10_repairs_47 (by decide) (fun h => K1 h) (fun h => K2 h)
theorem bX10_repairs_50 {I : Nat → Nat → Int32} {L : Nat → Int64} {Q : Option Value → (Nat → Nat → Int32) → (Nat → Int64) → Prop}   (K : XS mX10_repairs 55 [] [.int (1 : Int32)] I L Q) : XS mX10_repairs 50 [] [] I L Q := by
  refine x_iconst (v := (1 : Int32)) dX10_repairs_50 (by decide) ?_
  exact x_goto 55 dX10_repairs_51 (by decide) (K)
theorem bX10_repairs_54 {I : Nat → Nat → Int32} {L : Nat → Int64} {Q : Option Value → (Nat → Nat → Int32) → (Nat → Int64) → Prop}   (K : XS mX10_repairs 55 [] [.int (0 : Int32)] I L Q) : XS mX10_repairs 54 [] [] I L Q := by
  refine x_iconst (v := (0 : Int32)) dX10_repairs_54 (by decide) ?_
  exact K
theorem bX10_repairs_55 {I : Nat → Nat → Int32} {L : Nat → Int64} {Q : Option Value → (Nat → Nat → Int32) → (Nat → Int64) → Prop} {s0 : Int32} (hz1 : s0 = 0 ∨ s0 = 1) (K : Q (some (.int s0)) I L) : XS mX10_repairs 55 [] [.int s0] I L Q := by
  exact xs_iret dX10_repairs_55 rfl (x_nar _ hz1) K
theorem bX10_shortAt_0 {I : Nat → Nat → Int32} {L : Nat → Int64} {Q : Option Value → (Nat → Nat → Int32) → (Nat → Int64) → Prop} {v1 : Int32}  (K1 : (¬ v1 = (-1 : Int32)) → XS mX10_shortAt 12 [(0, .ref 49), (1, .int v1)] [] I L Q) (K2 : (v1 = (-1 : Int32)) → XS mX10_shortAt 5 [(0, .ref 49)] [] I L Q) : XS mX10_shortAt 0 [(0, .ref 49), (1, .int v1)] [] I L Q := by
  refine x_iload_n 1 dX10_shortAt_0 rfl rfl ?_
  refine x_iconst (v := (-1 : Int32)) dX10_shortAt_1 (by decide) ?_
  exact x_icmp_ne 12 dX10_shortAt_2 (by decide) (fun h => K1 h) (fun h => x_sub [0] rfl (K2 h))
theorem bX10_shortAt_5 {I : Nat → Nat → Int32} {L : Nat → Int64} {Q : Option Value → (Nat → Nat → Int32) → (Nat → Int64) → Prop}   (K : XS mX10_shortAt 40 [] [.int (I 3155 0)] I L Q) : XS mX10_shortAt 5 [(0, .ref 49)] [] I L Q := by
  refine x_aload_n 0 dX10_shortAt_5 rfl rfl ?_
  refine xs_geti 3155 dX10_shortAt_6 fl_X10_123 sh_49 rfl rfl ?_
  exact x_goto 40 dX10_shortAt_9 (by decide) (x_sub [] rfl (K))
theorem bX10_shortAt_12 {I : Nat → Nat → Int32} {L : Nat → Int64} {Q : Option Value → (Nat → Nat → Int32) → (Nat → Int64) → Prop} {v1 : Int32}  (K1 : ((I 3155 0) ≤ v1) → XS mX10_shortAt 39 [] [] I L Q) (K2 : (¬ (I 3155 0) ≤ v1) → XS mX10_shortAt 20 [(0, .ref 49), (1, .int v1)] [] I L Q) : XS mX10_shortAt 12 [(0, .ref 49), (1, .int v1)] [] I L Q := by
  refine x_iload_n 1 dX10_shortAt_12 rfl rfl ?_
  refine x_aload_n 0 dX10_shortAt_13 rfl rfl ?_
  refine xs_geti 3155 dX10_shortAt_14 fl_X10_123 sh_49 rfl rfl ?_
  exact x_icmp_ge 39 dX10_shortAt_17 (by decide) (fun h => x_sub [] rfl (K1 h)) (fun h => K2 h)
theorem bX10_shortAt_20 {I : Nat → Nat → Int32} {L : Nat → Int64} {Q : Option Value → (Nat → Nat → Int32) → (Nat → Int64) → Prop} {v1 : Int32} (hb1 : vp_in v1 8) (hb2 : vp_in v1 8) (K : XS mX10_shortAt 40 [] [.int (((100 : Int32) * (I 3968 (v1.toNatClampNeg))) + (I 4032 (v1.toNatClampNeg)))] I L Q) : XS mX10_shortAt 20 [(0, .ref 49), (1, .int v1)] [] I L Q := by
  refine x_bipush (v := (100 : Int32)) dX10_shortAt_20 (by decide) ?_
  refine x_aload_n 0 dX10_shortAt_22 rfl rfl ?_
  refine xs_getr dX10_shortAt_23 fl_X10_50 sh_49 rfl rf_3156 ?_
  refine x_iload_n 1 dX10_shortAt_26 rfl rfl ?_
  refine xs_iald 3968 (v1.toNatClampNeg) dX10_shortAt_27 sh_62 rfl rfl hb1 ?_
  refine x_imul dX10_shortAt_28 ?_
  refine x_aload_n 0 dX10_shortAt_29 rfl rfl ?_
  refine xs_getr dX10_shortAt_30 fl_X10_53 sh_49 rfl rf_3157 ?_
  refine x_iload_n 1 dX10_shortAt_33 rfl rfl ?_
  refine xs_iald 4032 (v1.toNatClampNeg) dX10_shortAt_34 sh_63 rfl rfl hb2 ?_
  refine x_iadd dX10_shortAt_35 ?_
  exact x_goto 40 dX10_shortAt_36 (by decide) (x_sub [] rfl (K))
theorem bX10_shortAt_39 {I : Nat → Nat → Int32} {L : Nat → Int64} {Q : Option Value → (Nat → Nat → Int32) → (Nat → Int64) → Prop}   (K : XS mX10_shortAt 40 [] [.int (-1 : Int32)] I L Q) : XS mX10_shortAt 39 [] [] I L Q := by
  refine x_iconst (v := (-1 : Int32)) dX10_shortAt_39 (by decide) ?_
  exact K
theorem bX10_shortAt_40 {I : Nat → Nat → Int32} {L : Nat → Int64} {Q : Option Value → (Nat → Nat → Int32) → (Nat → Int64) → Prop} {s0 : Int32}  (K : Q (some (.int s0)) I L) : XS mX10_shortAt 40 [] [.int s0] I L Q := by
  exact xs_iret dX10_shortAt_40 rfl rfl K
theorem bX10_write_0 {I : Nat → Nat → Int32} {L : Nat → Int64} {Q : Option Value → (Nat → Nat → Int32) → (Nat → Int64) → Prop} {v1 : Int32}  (K : XS mX10_in 0 [(0, .int v1), (1, .int (0 : Int32)), (2, .int (255 : Int32))] [] I L (fun r I' L' => XS mX10_write 8 [(0, .ref 49), (1, .int v1)] (r.toList ++ []) I' L' Q)) : XS mX10_write 0 [(0, .ref 49), (1, .int v1)] [] I L Q := by
  refine x_iload_n 1 dX10_write_0 rfl rfl ?_
  refine x_iconst (v := (0 : Int32)) dX10_write_1 (by decide) ?_
  refine x_sipush (v := (255 : Int32)) dX10_write_2 (by decide) ?_
  exact xs_callS mX10_in [.int v1, .int (0 : Int32), .int (255 : Int32)] [] 3 _ rfl dX10_write_5 ml_X10_86 qX10_in rfl ⟨Nat.le_of_ble_eq_true rfl, Nat.le_of_ble_eq_true rfl⟩ ⟨rfl, rfl⟩ (Nat.le_of_ble_eq_true rfl) (Nat.le_of_ble_eq_true rfl) (K)
theorem bX10_write_8 {I : Nat → Nat → Int32} {L : Nat → Int64} {Q : Option Value → (Nat → Nat → Int32) → (Nat → Int64) → Prop} {v1 : Int32} {s0 : Int32}  (K1 : (¬ s0 = 0) → XS mX10_write 14 [(0, .ref 49), (1, .int v1)] [] I L Q) (K2 : (s0 = 0) → XS mX10_write 11 [] [] I L Q) : XS mX10_write 8 [(0, .ref 49), (1, .int v1)] [.int s0] I L Q := by
  exact x_if_ne 14 dX10_write_8 (by decide) (fun h => K1 h) (fun h => x_sub [] rfl (K2 h))
theorem bX10_write_11 {I : Nat → Nat → Int32} {L : Nat → Int64} {Q : Option Value → (Nat → Nat → Int32) → (Nat → Int64) → Prop}   (K : Q (some (.int (-3 : Int32))) I L) : XS mX10_write 11 [] [] I L Q := by
  refine x_bipush (v := (-3 : Int32)) dX10_write_11 (by decide) ?_
  exact xs_iret dX10_write_13 rfl rfl K
theorem bX10_write_14 {I : Nat → Nat → Int32} {L : Nat → Int64} {Q : Option Value → (Nat → Nat → Int32) → (Nat → Int64) → Prop} {v1 : Int32}  (K1 : (¬ (I 3159 0) = (200 : Int32)) → XS mX10_write 27 [(0, .ref 49), (1, .int v1)] [] I L Q) (K2 : ((I 3159 0) = (200 : Int32)) → XS mX10_write 24 [] [] I L Q) : XS mX10_write 14 [(0, .ref 49), (1, .int v1)] [] I L Q := by
  refine x_aload_n 0 dX10_write_14 rfl rfl ?_
  refine xs_geti 3159 dX10_write_15 fl_X10_134 sh_49 rfl rfl ?_
  refine x_sipush (v := (200 : Int32)) dX10_write_18 (by decide) ?_
  exact x_icmp_ne 27 dX10_write_21 (by decide) (fun h => K1 h) (fun h => x_sub [] rfl (K2 h))
theorem bX10_write_24 {I : Nat → Nat → Int32} {L : Nat → Int64} {Q : Option Value → (Nat → Nat → Int32) → (Nat → Int64) → Prop}   (K : Q (some (.int (-5 : Int32))) I L) : XS mX10_write 24 [] [] I L Q := by
  refine x_bipush (v := (-5 : Int32)) dX10_write_24 (by decide) ?_
  exact xs_iret dX10_write_26 rfl rfl K
theorem bX10_write_27 {I : Nat → Nat → Int32} {L : Nat → Int64} {Q : Option Value → (Nat → Nat → Int32) → (Nat → Int64) → Prop} {v1 : Int32} (hb1 : vp_in (I 3159 0) 200) (K : Q (some (.int ((x_up (x_up I 4096 ((I 3159 0).toNatClampNeg) v1) 3159 0 (((x_up I 4096 ((I 3159 0).toNatClampNeg) v1) 3159 0) + (1 : Int32))) 3159 0))) (x_up (x_up I 4096 ((I 3159 0).toNatClampNeg) v1) 3159 0 (((x_up I 4096 ((I 3159 0).toNatClampNeg) v1) 3159 0) + (1 : Int32))) L) : XS mX10_write 27 [(0, .ref 49), (1, .int v1)] [] I L Q := by
  refine x_aload_n 0 dX10_write_27 rfl rfl ?_
  refine xs_getr dX10_write_28 fl_X10_56 sh_49 rfl rf_3158 ?_
  refine x_aload_n 0 dX10_write_31 rfl rfl ?_
  refine xs_geti 3159 dX10_write_32 fl_X10_134 sh_49 rfl rfl ?_
  refine x_iload_n 1 dX10_write_35 rfl rfl ?_
  refine xs_iast 4096 ((I 3159 0).toNatClampNeg) dX10_write_36 sh_64 rfl rfl hb1 ?_
  refine x_aload_n 0 dX10_write_37 rfl rfl ?_
  refine x_dup dX10_write_38 rfl ?_
  refine xs_geti 3159 dX10_write_39 fl_X10_134 sh_49 rfl rfl ?_
  refine x_iconst (v := (1 : Int32)) dX10_write_42 (by decide) ?_
  refine x_iadd dX10_write_43 ?_
  refine xs_puti 3159 dX10_write_44 fl_X10_134 sh_49 rfl rfl rfl ?_
  refine x_aload_n 0 dX10_write_47 rfl rfl ?_
  refine xs_geti 3159 dX10_write_48 fl_X10_134 sh_49 rfl rfl ?_
  exact xs_iret dX10_write_51 rfl rfl K
theorem bX10_erase_0 {I : Nat → Nat → Int32} {L : Nat → Int64} {Q : Option Value → (Nat → Nat → Int32) → (Nat → Int64) → Prop}   (K : Q (some (.int (I 3159 0))) (x_up I 3159 0 (0 : Int32)) L) : XS mX10_erase 0 [(0, .ref 49)] [] I L Q := by
  refine x_aload_n 0 dX10_erase_0 rfl rfl ?_
  refine xs_geti 3159 dX10_erase_1 fl_X10_134 sh_49 rfl rfl ?_
  refine x_istore_n [(0, .ref 49), (1, .int (I 3159 0))] dX10_erase_4 rfl (Nat.le_of_ble_eq_true rfl) rfl ?_
  refine x_aload_n 0 dX10_erase_5 rfl rfl ?_
  refine x_iconst (v := (0 : Int32)) dX10_erase_6 (by decide) ?_
  refine xs_puti 3159 dX10_erase_7 fl_X10_134 sh_49 rfl rfl rfl ?_
  refine x_iload_n 1 dX10_erase_10 rfl rfl ?_
  exact xs_iret dX10_erase_11 rfl rfl K
theorem bX10_isLetter_0 {I : Nat → Nat → Int32} {L : Nat → Int64} {Q : Option Value → (Nat → Nat → Int32) → (Nat → Int64) → Prop} {v1 : Int32}  (K1 : ((I 3159 0) ≤ v1) → XS mX10_isLetter 28 [] [] I L Q) (K2 : (¬ (I 3159 0) ≤ v1) → XS mX10_isLetter 8 [(0, .ref 49), (1, .int v1)] [] I L Q) : XS mX10_isLetter 0 [(0, .ref 49), (1, .int v1)] [] I L Q := by
  refine x_iload_n 1 dX10_isLetter_0 rfl rfl ?_
  refine x_aload_n 0 dX10_isLetter_1 rfl rfl ?_
  refine xs_geti 3159 dX10_isLetter_2 fl_X10_134 sh_49 rfl rfl ?_
  exact x_icmp_ge 28 dX10_isLetter_5 (by decide) (fun h => x_sub [] rfl (K1 h)) (fun h => K2 h)
theorem bX10_isLetter_8 {I : Nat → Nat → Int32} {L : Nat → Int64} {Q : Option Value → (Nat → Nat → Int32) → (Nat → Int64) → Prop} {v1 : Int32} (hb1 : vp_in v1 200) (K : XS mX10_in 0 [(0, .int (I 4096 (v1.toNatClampNeg))), (1, .int (97 : Int32)), (2, .int (122 : Int32))] [] I L (fun r I' L' => XS mX10_isLetter 21 [] (r.toList ++ []) I' L' Q)) : XS mX10_isLetter 8 [(0, .ref 49), (1, .int v1)] [] I L Q := by
  refine x_aload_n 0 dX10_isLetter_8 rfl rfl ?_
  refine xs_getr dX10_isLetter_9 fl_X10_56 sh_49 rfl rf_3158 ?_
  refine x_iload_n 1 dX10_isLetter_12 rfl rfl ?_
  refine xs_iald 4096 (v1.toNatClampNeg) dX10_isLetter_13 sh_64 rfl rfl hb1 ?_
  refine x_bipush (v := (97 : Int32)) dX10_isLetter_14 (by decide) ?_
  refine x_bipush (v := (122 : Int32)) dX10_isLetter_16 (by decide) ?_
  refine x_sub [] rfl ?_
  exact xs_callS mX10_in [.int (I 4096 (v1.toNatClampNeg)), .int (97 : Int32), .int (122 : Int32)] [] 3 _ rfl dX10_isLetter_18 ml_X10_86 qX10_in rfl ⟨Nat.le_of_ble_eq_true rfl, Nat.le_of_ble_eq_true rfl⟩ ⟨rfl, rfl⟩ (Nat.le_of_ble_eq_true rfl) (Nat.le_of_ble_eq_true rfl) (K)
theorem bX10_isLetter_21 {I : Nat → Nat → Int32} {L : Nat → Int64} {Q : Option Value → (Nat → Nat → Int32) → (Nat → Int64) → Prop} {s0 : Int32}  (K1 : (s0 = 0) → XS mX10_isLetter 28 [] [] I L Q) (K2 : (¬ s0 = 0) → XS mX10_isLetter 24 [] [] I L Q) : XS mX10_isLetter 21 [] [.int s0] I L Q := by
  exact x_if_eq 28 dX10_isLetter_21 (by decide) (fun h => K1 h) (fun h => K2 h)
theorem bX10_isLetter_24 {I : Nat → Nat → Int32} {L : Nat → Int64} {Q : Option Value → (Nat → Nat → Int32) → (Nat → Int64) → Prop}   (K : XS mX10_isLetter 29 [] [.int (1 : Int32)] I L Q) : XS mX10_isLetter 24 [] [] I L Q := by
  refine x_iconst (v := (1 : Int32)) dX10_isLetter_24 (by decide) ?_
  exact x_goto 29 dX10_isLetter_25 (by decide) (K)
theorem bX10_isLetter_28 {I : Nat → Nat → Int32} {L : Nat → Int64} {Q : Option Value → (Nat → Nat → Int32) → (Nat → Int64) → Prop}   (K : XS mX10_isLetter 29 [] [.int (0 : Int32)] I L Q) : XS mX10_isLetter 28 [] [] I L Q := by
  refine x_iconst (v := (0 : Int32)) dX10_isLetter_28 (by decide) ?_
  exact K
theorem bX10_isLetter_29 {I : Nat → Nat → Int32} {L : Nat → Int64} {Q : Option Value → (Nat → Nat → Int32) → (Nat → Int64) → Prop} {s0 : Int32} (hz1 : s0 = 0 ∨ s0 = 1) (K : Q (some (.int s0)) I L) : XS mX10_isLetter 29 [] [.int s0] I L Q := by
  exact xs_iret dX10_isLetter_29 rfl (x_nar _ hz1) K
theorem bX10_isFigure_0 {I : Nat → Nat → Int32} {L : Nat → Int64} {Q : Option Value → (Nat → Nat → Int32) → (Nat → Int64) → Prop} {v1 : Int32}  (K1 : ((I 3159 0) ≤ v1) → XS mX10_isFigure 28 [] [] I L Q) (K2 : (¬ (I 3159 0) ≤ v1) → XS mX10_isFigure 8 [(0, .ref 49), (1, .int v1)] [] I L Q) : XS mX10_isFigure 0 [(0, .ref 49), (1, .int v1)] [] I L Q := by
  refine x_iload_n 1 dX10_isFigure_0 rfl rfl ?_
  refine x_aload_n 0 dX10_isFigure_1 rfl rfl ?_
  refine xs_geti 3159 dX10_isFigure_2 fl_X10_134 sh_49 rfl rfl ?_
  exact x_icmp_ge 28 dX10_isFigure_5 (by decide) (fun h => x_sub [] rfl (K1 h)) (fun h => K2 h)
theorem bX10_isFigure_8 {I : Nat → Nat → Int32} {L : Nat → Int64} {Q : Option Value → (Nat → Nat → Int32) → (Nat → Int64) → Prop} {v1 : Int32} (hb1 : vp_in v1 200) (K : XS mX10_in 0 [(0, .int (I 4096 (v1.toNatClampNeg))), (1, .int (48 : Int32)), (2, .int (57 : Int32))] [] I L (fun r I' L' => XS mX10_isFigure 21 [] (r.toList ++ []) I' L' Q)) : XS mX10_isFigure 8 [(0, .ref 49), (1, .int v1)] [] I L Q := by
  refine x_aload_n 0 dX10_isFigure_8 rfl rfl ?_
  refine xs_getr dX10_isFigure_9 fl_X10_56 sh_49 rfl rf_3158 ?_
  refine x_iload_n 1 dX10_isFigure_12 rfl rfl ?_
  refine xs_iald 4096 (v1.toNatClampNeg) dX10_isFigure_13 sh_64 rfl rfl hb1 ?_
  refine x_bipush (v := (48 : Int32)) dX10_isFigure_14 (by decide) ?_
  refine x_bipush (v := (57 : Int32)) dX10_isFigure_16 (by decide) ?_
  refine x_sub [] rfl ?_
  exact xs_callS mX10_in [.int (I 4096 (v1.toNatClampNeg)), .int (48 : Int32), .int (57 : Int32)] [] 3 _ rfl dX10_isFigure_18 ml_X10_86 qX10_in rfl ⟨Nat.le_of_ble_eq_true rfl, Nat.le_of_ble_eq_true rfl⟩ ⟨rfl, rfl⟩ (Nat.le_of_ble_eq_true rfl) (Nat.le_of_ble_eq_true rfl) (K)
theorem bX10_isFigure_21 {I : Nat → Nat → Int32} {L : Nat → Int64} {Q : Option Value → (Nat → Nat → Int32) → (Nat → Int64) → Prop} {s0 : Int32}  (K1 : (s0 = 0) → XS mX10_isFigure 28 [] [] I L Q) (K2 : (¬ s0 = 0) → XS mX10_isFigure 24 [] [] I L Q) : XS mX10_isFigure 21 [] [.int s0] I L Q := by
  exact x_if_eq 28 dX10_isFigure_21 (by decide) (fun h => K1 h) (fun h => K2 h)
theorem bX10_isFigure_24 {I : Nat → Nat → Int32} {L : Nat → Int64} {Q : Option Value → (Nat → Nat → Int32) → (Nat → Int64) → Prop}   (K : XS mX10_isFigure 29 [] [.int (1 : Int32)] I L Q) : XS mX10_isFigure 24 [] [] I L Q := by
  refine x_iconst (v := (1 : Int32)) dX10_isFigure_24 (by decide) ?_
  exact x_goto 29 dX10_isFigure_25 (by decide) (K)
theorem bX10_isFigure_28 {I : Nat → Nat → Int32} {L : Nat → Int64} {Q : Option Value → (Nat → Nat → Int32) → (Nat → Int64) → Prop}   (K : XS mX10_isFigure 29 [] [.int (0 : Int32)] I L Q) : XS mX10_isFigure 28 [] [] I L Q := by
  refine x_iconst (v := (0 : Int32)) dX10_isFigure_28 (by decide) ?_
  exact K
theorem bX10_isFigure_29 {I : Nat → Nat → Int32} {L : Nat → Int64} {Q : Option Value → (Nat → Nat → Int32) → (Nat → Int64) → Prop} {s0 : Int32} (hz1 : s0 = 0 ∨ s0 = 1) (K : Q (some (.int s0)) I L) : XS mX10_isFigure 29 [] [.int s0] I L Q := by
  exact xs_iret dX10_isFigure_29 rfl (x_nar _ hz1) K
theorem bX10_looks_0 {I : Nat → Nat → Int32} {L : Nat → Int64} {Q : Option Value → (Nat → Nat → Int32) → (Nat → Int64) → Prop}   (K1 : ((I 3159 0) ≤ (I 3160 0)) → XS mX10_looks 38 [(0, .ref 49)] [] I L Q) (K2 : (¬ (I 3159 0) ≤ (I 3160 0)) → XS mX10_looks 11 [(0, .ref 49)] [] I L Q) : XS mX10_looks 0 [(0, .ref 49)] [] I L Q := by
  refine x_aload_n 0 dX10_looks_0 rfl rfl ?_
  refine xs_geti 3160 dX10_looks_1 fl_X10_137 sh_49 rfl rfl ?_
  refine x_aload_n 0 dX10_looks_4 rfl rfl ?_
  refine xs_geti 3159 dX10_looks_5 fl_X10_134 sh_49 rfl rfl ?_
  exact x_icmp_ge 38 dX10_looks_8 (by decide) (fun h => K1 h) (fun h => K2 h)
theorem bX10_looks_11 {I : Nat → Nat → Int32} {L : Nat → Int64} {Q : Option Value → (Nat → Nat → Int32) → (Nat → Int64) → Prop}  (hb1 : vp_in (I 3160 0) 200) (K1 : (¬ (I 4096 ((I 3160 0).toNatClampNeg)) = (32 : Int32)) → XS mX10_looks 38 [(0, .ref 49)] [] I L Q) (K2 : ((I 4096 ((I 3160 0).toNatClampNeg)) = (32 : Int32)) → XS mX10_looks 25 [(0, .ref 49)] [] I L Q) : XS mX10_looks 11 [(0, .ref 49)] [] I L Q := by
  refine x_aload_n 0 dX10_looks_11 rfl rfl ?_
  refine xs_getr dX10_looks_12 fl_X10_56 sh_49 rfl rf_3158 ?_
  refine x_aload_n 0 dX10_looks_15 rfl rfl ?_
  refine xs_geti 3160 dX10_looks_16 fl_X10_137 sh_49 rfl rfl ?_
  refine xs_iald 4096 ((I 3160 0).toNatClampNeg) dX10_looks_19 sh_64 rfl rfl hb1 ?_
  refine x_bipush (v := (32 : Int32)) dX10_looks_20 (by decide) ?_
  exact x_icmp_ne 38 dX10_looks_22 (by decide) (fun h => K1 h) (fun h => K2 h)
theorem bX10_looks_25 {I : Nat → Nat → Int32} {L : Nat → Int64} {Q : Option Value → (Nat → Nat → Int32) → (Nat → Int64) → Prop}   (K : XS mX10_looks 0 [(0, .ref 49)] [] (x_up I 3160 0 ((I 3160 0) + (1 : Int32))) L Q) : XS mX10_looks 25 [(0, .ref 49)] [] I L Q := by
  refine x_aload_n 0 dX10_looks_25 rfl rfl ?_
  refine x_dup dX10_looks_26 rfl ?_
  refine xs_geti 3160 dX10_looks_27 fl_X10_137 sh_49 rfl rfl ?_
  refine x_iconst (v := (1 : Int32)) dX10_looks_30 (by decide) ?_
  refine x_iadd dX10_looks_31 ?_
  refine xs_puti 3160 dX10_looks_32 fl_X10_137 sh_49 rfl rfl rfl ?_
  exact x_goto 0 dX10_looks_35 (by decide) (K)
theorem bX10_looks_38 {I : Nat → Nat → Int32} {L : Nat → Int64} {Q : Option Value → (Nat → Nat → Int32) → (Nat → Int64) → Prop}   (K1 : ((I 3159 0) ≤ (I 3160 0)) → XS mX10_looks 54 [(0, .ref 49)] [.ref 49] I L Q) (K2 : (¬ (I 3159 0) ≤ (I 3160 0)) → XS mX10_looks 50 [(0, .ref 49)] [.ref 49] I L Q) : XS mX10_looks 38 [(0, .ref 49)] [] I L Q := by
  refine x_aload_n 0 dX10_looks_38 rfl rfl ?_
  refine x_aload_n 0 dX10_looks_39 rfl rfl ?_
  refine xs_geti 3160 dX10_looks_40 fl_X10_137 sh_49 rfl rfl ?_
  refine x_aload_n 0 dX10_looks_43 rfl rfl ?_
  refine xs_geti 3159 dX10_looks_44 fl_X10_134 sh_49 rfl rfl ?_
  exact x_icmp_ge 54 dX10_looks_47 (by decide) (fun h => K1 h) (fun h => K2 h)
theorem bX10_looks_50 {I : Nat → Nat → Int32} {L : Nat → Int64} {Q : Option Value → (Nat → Nat → Int32) → (Nat → Int64) → Prop}   (K : XS mX10_looks 55 [(0, .ref 49)] [.int (1 : Int32), .ref 49] I L Q) : XS mX10_looks 50 [(0, .ref 49)] [.ref 49] I L Q := by
  refine x_iconst (v := (1 : Int32)) dX10_looks_50 (by decide) ?_
  exact x_goto 55 dX10_looks_51 (by decide) (K)
theorem bX10_looks_54 {I : Nat → Nat → Int32} {L : Nat → Int64} {Q : Option Value → (Nat → Nat → Int32) → (Nat → Int64) → Prop}   (K : XS mX10_looks 55 [(0, .ref 49)] [.int (0 : Int32), .ref 49] I L Q) : XS mX10_looks 54 [(0, .ref 49)] [.ref 49] I L Q := by
  refine x_iconst (v := (0 : Int32)) dX10_looks_54 (by decide) ?_
  exact K
theorem bX10_looks_55 {I : Nat → Nat → Int32} {L : Nat → Int64} {Q : Option Value → (Nat → Nat → Int32) → (Nat → Int64) → Prop} {s1 : Int32}  (K : XS mX10_looks 58 [(0, .ref 49)] [] (x_up I 3161 0 s1) L Q) : XS mX10_looks 55 [(0, .ref 49)] [.int s1, .ref 49] I L Q := by
  refine xs_puti 3161 dX10_looks_55 fl_X10_140 sh_49 rfl rfl rfl ?_
  exact K
theorem bX10_looks_58 {I : Nat → Nat → Int32} {L : Nat → Int64} {Q : Option Value → (Nat → Nat → Int32) → (Nat → Int64) → Prop}   (K : XS mX10_isLetter 0 [(0, .ref 49), (1, .int (I 3160 0))] [] I L (fun r I' L' => XS mX10_looks 66 [(0, .ref 49)] (r.toList ++ []) I' L' Q)) : XS mX10_looks 58 [(0, .ref 49)] [] I L Q := by
  refine x_aload_n 0 dX10_looks_58 rfl rfl ?_
  refine x_aload_n 0 dX10_looks_59 rfl rfl ?_
  refine xs_geti 3160 dX10_looks_60 fl_X10_137 sh_49 rfl rfl ?_
  exact xs_callV mX10_isLetter [.int (I 3160 0)] [] 49 10 1 _ rfl dX10_looks_63 ml_X10_143 qX10_isLetter rfl ⟨Nat.le_of_ble_eq_true rfl, Nat.le_of_ble_eq_true rfl⟩ ⟨rfl, rfl⟩ (Nat.le_of_ble_eq_true rfl) sh_49 (by decide) rfl (Nat.le_of_ble_eq_true rfl) (K)
theorem bX10_looks_66 {I : Nat → Nat → Int32} {L : Nat → Int64} {Q : Option Value → (Nat → Nat → Int32) → (Nat → Int64) → Prop} {s0 : Int32}  (K1 : (s0 = 0) → XS mX10_looks 85 [(0, .ref 49)] [] I L Q) (K2 : (¬ s0 = 0) → XS mX10_looks 69 [(0, .ref 49)] [] I L Q) : XS mX10_looks 66 [(0, .ref 49)] [.int s0] I L Q := by
  exact x_if_eq 85 dX10_looks_66 (by decide) (fun h => K1 h) (fun h => K2 h)
theorem bX10_looks_69 {I : Nat → Nat → Int32} {L : Nat → Int64} {Q : Option Value → (Nat → Nat → Int32) → (Nat → Int64) → Prop}   (K : XS mX10_isLetter 0 [(0, .ref 49), (1, .int ((I 3160 0) + (I 3161 0)))] [] I L (fun r I' L' => XS mX10_looks 82 [(0, .ref 49)] (r.toList ++ []) I' L' Q)) : XS mX10_looks 69 [(0, .ref 49)] [] I L Q := by
  refine x_aload_n 0 dX10_looks_69 rfl rfl ?_
  refine x_aload_n 0 dX10_looks_70 rfl rfl ?_
  refine xs_geti 3160 dX10_looks_71 fl_X10_137 sh_49 rfl rfl ?_
  refine x_aload_n 0 dX10_looks_74 rfl rfl ?_
  refine xs_geti 3161 dX10_looks_75 fl_X10_140 sh_49 rfl rfl ?_
  refine x_iadd dX10_looks_78 ?_
  exact xs_callV mX10_isLetter [.int ((I 3160 0) + (I 3161 0))] [] 49 10 1 _ rfl dX10_looks_79 ml_X10_143 qX10_isLetter rfl ⟨Nat.le_of_ble_eq_true rfl, Nat.le_of_ble_eq_true rfl⟩ ⟨rfl, rfl⟩ (Nat.le_of_ble_eq_true rfl) sh_49 (by decide) rfl (Nat.le_of_ble_eq_true rfl) (K)
theorem bX10_looks_82 {I : Nat → Nat → Int32} {L : Nat → Int64} {Q : Option Value → (Nat → Nat → Int32) → (Nat → Int64) → Prop} {s0 : Int32}  (K1 : (¬ s0 = 0) → XS mX10_looks 112 [(0, .ref 49)] [] I L Q) (K2 : (s0 = 0) → XS mX10_looks 85 [(0, .ref 49)] [] I L Q) : XS mX10_looks 82 [(0, .ref 49)] [.int s0] I L Q := by
  exact x_if_ne 112 dX10_looks_82 (by decide) (fun h => K1 h) (fun h => K2 h)
theorem bX10_looks_85 {I : Nat → Nat → Int32} {L : Nat → Int64} {Q : Option Value → (Nat → Nat → Int32) → (Nat → Int64) → Prop}   (K : XS mX10_isFigure 0 [(0, .ref 49), (1, .int (I 3160 0))] [] I L (fun r I' L' => XS mX10_looks 93 [(0, .ref 49)] (r.toList ++ []) I' L' Q)) : XS mX10_looks 85 [(0, .ref 49)] [] I L Q := by
  refine x_aload_n 0 dX10_looks_85 rfl rfl ?_
  refine x_aload_n 0 dX10_looks_86 rfl rfl ?_
  refine xs_geti 3160 dX10_looks_87 fl_X10_137 sh_49 rfl rfl ?_
  exact xs_callV mX10_isFigure [.int (I 3160 0)] [] 49 10 1 _ rfl dX10_looks_90 ml_X10_147 qX10_isFigure rfl ⟨Nat.le_of_ble_eq_true rfl, Nat.le_of_ble_eq_true rfl⟩ ⟨rfl, rfl⟩ (Nat.le_of_ble_eq_true rfl) sh_49 (by decide) rfl (Nat.le_of_ble_eq_true rfl) (K)
theorem bX10_looks_93 {I : Nat → Nat → Int32} {L : Nat → Int64} {Q : Option Value → (Nat → Nat → Int32) → (Nat → Int64) → Prop} {s0 : Int32}  (K1 : (s0 = 0) → XS mX10_looks 125 [(0, .ref 49)] [] I L Q) (K2 : (¬ s0 = 0) → XS mX10_looks 96 [(0, .ref 49)] [] I L Q) : XS mX10_looks 93 [(0, .ref 49)] [.int s0] I L Q := by
  exact x_if_eq 125 dX10_looks_93 (by decide) (fun h => K1 h) (fun h => K2 h)
theorem bX10_looks_96 {I : Nat → Nat → Int32} {L : Nat → Int64} {Q : Option Value → (Nat → Nat → Int32) → (Nat → Int64) → Prop}   (K : XS mX10_isFigure 0 [(0, .ref 49), (1, .int ((I 3160 0) + (I 3161 0)))] [] I L (fun r I' L' => XS mX10_looks 109 [(0, .ref 49)] (r.toList ++ []) I' L' Q)) : XS mX10_looks 96 [(0, .ref 49)] [] I L Q := by
  refine x_aload_n 0 dX10_looks_96 rfl rfl ?_
  refine x_aload_n 0 dX10_looks_97 rfl rfl ?_
  refine xs_geti 3160 dX10_looks_98 fl_X10_137 sh_49 rfl rfl ?_
  refine x_aload_n 0 dX10_looks_101 rfl rfl ?_
  refine xs_geti 3161 dX10_looks_102 fl_X10_140 sh_49 rfl rfl ?_
  refine x_iadd dX10_looks_105 ?_
  exact xs_callV mX10_isFigure [.int ((I 3160 0) + (I 3161 0))] [] 49 10 1 _ rfl dX10_looks_106 ml_X10_147 qX10_isFigure rfl ⟨Nat.le_of_ble_eq_true rfl, Nat.le_of_ble_eq_true rfl⟩ ⟨rfl, rfl⟩ (Nat.le_of_ble_eq_true rfl) sh_49 (by decide) rfl (Nat.le_of_ble_eq_true rfl) (K)
theorem bX10_looks_109 {I : Nat → Nat → Int32} {L : Nat → Int64} {Q : Option Value → (Nat → Nat → Int32) → (Nat → Int64) → Prop} {s0 : Int32}  (K1 : (s0 = 0) → XS mX10_looks 125 [(0, .ref 49)] [] I L Q) (K2 : (¬ s0 = 0) → XS mX10_looks 112 [(0, .ref 49)] [] I L Q) : XS mX10_looks 109 [(0, .ref 49)] [.int s0] I L Q := by
  exact x_if_eq 125 dX10_looks_109 (by decide) (fun h => K1 h) (fun h => K2 h)
theorem bX10_looks_112 {I : Nat → Nat → Int32} {L : Nat → Int64} {Q : Option Value → (Nat → Nat → Int32) → (Nat → Int64) → Prop}   (K : XS mX10_looks 58 [(0, .ref 49)] [] (x_up I 3161 0 ((I 3161 0) + (1 : Int32))) L Q) : XS mX10_looks 112 [(0, .ref 49)] [] I L Q := by
  refine x_aload_n 0 dX10_looks_112 rfl rfl ?_
  refine x_dup dX10_looks_113 rfl ?_
  refine xs_geti 3161 dX10_looks_114 fl_X10_140 sh_49 rfl rfl ?_
  refine x_iconst (v := (1 : Int32)) dX10_looks_117 (by decide) ?_
  refine x_iadd dX10_looks_118 ?_
  refine xs_puti 3161 dX10_looks_119 fl_X10_140 sh_49 rfl rfl rfl ?_
  exact x_goto 58 dX10_looks_122 (by decide) (K)
theorem bX10_looks_125 {I : Nat → Nat → Int32} {L : Nat → Int64} {Q : Option Value → (Nat → Nat → Int32) → (Nat → Int64) → Prop}   (K1 : ((I 3159 0) ≤ (I 3160 0)) → XS mX10_looks 148 [] [] I L Q) (K2 : (¬ (I 3159 0) ≤ (I 3160 0)) → XS mX10_looks 136 [(0, .ref 49)] [] I L Q) : XS mX10_looks 125 [(0, .ref 49)] [] I L Q := by
  refine x_aload_n 0 dX10_looks_125 rfl rfl ?_
  refine xs_geti 3160 dX10_looks_126 fl_X10_137 sh_49 rfl rfl ?_
  refine x_aload_n 0 dX10_looks_129 rfl rfl ?_
  refine xs_geti 3159 dX10_looks_130 fl_X10_134 sh_49 rfl rfl ?_
  exact x_icmp_ge 148 dX10_looks_133 (by decide) (fun h => x_sub [] rfl (K1 h)) (fun h => K2 h)
theorem bX10_looks_136 {I : Nat → Nat → Int32} {L : Nat → Int64} {Q : Option Value → (Nat → Nat → Int32) → (Nat → Int64) → Prop}  (hb1 : vp_in (I 3160 0) 200) (K : XS mX10_looks 149 [] [.int (I 4096 ((I 3160 0).toNatClampNeg))] I L Q) : XS mX10_looks 136 [(0, .ref 49)] [] I L Q := by
  refine x_aload_n 0 dX10_looks_136 rfl rfl ?_
  refine xs_getr dX10_looks_137 fl_X10_56 sh_49 rfl rf_3158 ?_
  refine x_aload_n 0 dX10_looks_140 rfl rfl ?_
  refine xs_geti 3160 dX10_looks_141 fl_X10_137 sh_49 rfl rfl ?_
  refine xs_iald 4096 ((I 3160 0).toNatClampNeg) dX10_looks_144 sh_64 rfl rfl hb1 ?_
  exact x_goto 149 dX10_looks_145 (by decide) (x_sub [] rfl (K))
theorem bX10_looks_148 {I : Nat → Nat → Int32} {L : Nat → Int64} {Q : Option Value → (Nat → Nat → Int32) → (Nat → Int64) → Prop}   (K : XS mX10_looks 149 [] [.int (-1 : Int32)] I L Q) : XS mX10_looks 148 [] [] I L Q := by
  refine x_iconst (v := (-1 : Int32)) dX10_looks_148 (by decide) ?_
  exact K
theorem bX10_looks_149 {I : Nat → Nat → Int32} {L : Nat → Int64} {Q : Option Value → (Nat → Nat → Int32) → (Nat → Int64) → Prop} {s0 : Int32}  (K : Q (some (.int s0)) I L) : XS mX10_looks 149 [] [.int s0] I L Q := by
  exact xs_iret dX10_looks_149 rfl rfl K
theorem bX10_takes_0 {I : Nat → Nat → Int32} {L : Nat → Int64} {Q : Option Value → (Nat → Nat → Int32) → (Nat → Int64) → Prop} {v1 : Int32}  (K1 : (¬ (I 3162 0) = 0) → XS mX10_takes 12 [(0, .ref 49)] [.ref 49] I L Q) (K2 : ((I 3162 0) = 0) → XS mX10_takes 8 [(0, .ref 49), (1, .int v1)] [.ref 49] I L Q) : XS mX10_takes 0 [(0, .ref 49), (1, .int v1)] [] I L Q := by
  refine x_aload_n 0 dX10_takes_0 rfl rfl ?_
  refine x_aload_n 0 dX10_takes_1 rfl rfl ?_
  refine xs_geti 3162 dX10_takes_2 fl_X10_150 sh_49 rfl rfl ?_
  exact x_if_ne 12 dX10_takes_5 (by decide) (fun h => x_sub [0] rfl (K1 h)) (fun h => K2 h)
theorem bX10_takes_8 {I : Nat → Nat → Int32} {L : Nat → Int64} {Q : Option Value → (Nat → Nat → Int32) → (Nat → Int64) → Prop} {v1 : Int32}  (K1 : (¬ v1 = 0) → XS mX10_takes 16 [(0, .ref 49)] [.ref 49] I L Q) (K2 : (v1 = 0) → XS mX10_takes 12 [(0, .ref 49)] [.ref 49] I L Q) : XS mX10_takes 8 [(0, .ref 49), (1, .int v1)] [.ref 49] I L Q := by
  refine x_iload_n 1 dX10_takes_8 rfl rfl ?_
  exact x_if_ne 16 dX10_takes_9 (by decide) (fun h => x_sub [0] rfl (K1 h)) (fun h => x_sub [0] rfl (K2 h))
theorem bX10_takes_12 {I : Nat → Nat → Int32} {L : Nat → Int64} {Q : Option Value → (Nat → Nat → Int32) → (Nat → Int64) → Prop}   (K : XS mX10_takes 17 [(0, .ref 49)] [.int (1 : Int32), .ref 49] I L Q) : XS mX10_takes 12 [(0, .ref 49)] [.ref 49] I L Q := by
  refine x_iconst (v := (1 : Int32)) dX10_takes_12 (by decide) ?_
  exact x_goto 17 dX10_takes_13 (by decide) (K)
theorem bX10_takes_16 {I : Nat → Nat → Int32} {L : Nat → Int64} {Q : Option Value → (Nat → Nat → Int32) → (Nat → Int64) → Prop}   (K : XS mX10_takes 17 [(0, .ref 49)] [.int (0 : Int32), .ref 49] I L Q) : XS mX10_takes 16 [(0, .ref 49)] [.ref 49] I L Q := by
  refine x_iconst (v := (0 : Int32)) dX10_takes_16 (by decide) ?_
  exact K
theorem bX10_takes_17 {I : Nat → Nat → Int32} {L : Nat → Int64} {Q : Option Value → (Nat → Nat → Int32) → (Nat → Int64) → Prop} {s1 : Int32} (hz1 : s1 = 0 ∨ s1 = 1) (K1 : (((x_up I 3162 0 s1) 3162 0) = 0) → XS mX10_takes 36 [(0, .ref 49)] [.int ((x_up I 3162 0 s1) 3160 0), .ref 49] (x_up I 3162 0 s1) L Q) (K2 : (¬ ((x_up I 3162 0 s1) 3162 0) = 0) → XS mX10_takes 32 [] [.int ((x_up I 3162 0 s1) 3160 0), .ref 49] (x_up I 3162 0 s1) L Q) : XS mX10_takes 17 [(0, .ref 49)] [.int s1, .ref 49] I L Q := by
  refine xs_putz 3162 dX10_takes_17 fl_X10_150 sh_49 rfl hz1 rfl rfl ?_
  refine x_aload_n 0 dX10_takes_20 rfl rfl ?_
  refine x_dup dX10_takes_21 rfl ?_
  refine xs_geti 3160 dX10_takes_22 fl_X10_137 sh_49 rfl rfl ?_
  refine x_aload_n 0 dX10_takes_25 rfl rfl ?_
  refine xs_geti 3162 dX10_takes_26 fl_X10_150 sh_49 rfl rfl ?_
  exact x_if_eq 36 dX10_takes_29 (by decide) (fun h => K1 h) (fun h => x_sub [] rfl (K2 h))
theorem bX10_takes_32 {I : Nat → Nat → Int32} {L : Nat → Int64} {Q : Option Value → (Nat → Nat → Int32) → (Nat → Int64) → Prop} {s1 : Int32}  (K : XS mX10_takes 40 [] [.int (0 : Int32), .int s1, .ref 49] I L Q) : XS mX10_takes 32 [] [.int s1, .ref 49] I L Q := by
  refine x_iconst (v := (0 : Int32)) dX10_takes_32 (by decide) ?_
  exact x_goto 40 dX10_takes_33 (by decide) (K)
theorem bX10_takes_36 {I : Nat → Nat → Int32} {L : Nat → Int64} {Q : Option Value → (Nat → Nat → Int32) → (Nat → Int64) → Prop} {s1 : Int32}  (K : XS mX10_takes 40 [] [.int (I 3161 0), .int s1, .ref 49] I L Q) : XS mX10_takes 36 [(0, .ref 49)] [.int s1, .ref 49] I L Q := by
  refine x_aload_n 0 dX10_takes_36 rfl rfl ?_
  refine xs_geti 3161 dX10_takes_37 fl_X10_140 sh_49 rfl rfl ?_
  exact x_sub [] rfl (K)
theorem bX10_takes_40 {I : Nat → Nat → Int32} {L : Nat → Int64} {Q : Option Value → (Nat → Nat → Int32) → (Nat → Int64) → Prop} {s1 : Int32} {s2 : Int32}  (K : Q none (x_up I 3160 0 (s1 + s2)) L) : XS mX10_takes 40 [] [.int s2, .int s1, .ref 49] I L Q := by
  refine x_iadd dX10_takes_40 ?_
  refine xs_puti 3160 dX10_takes_41 fl_X10_137 sh_49 rfl rfl rfl ?_
  exact xs_end dX10_takes_44 rfl K
theorem bX10_figure_0 {I : Nat → Nat → Int32} {L : Nat → Int64} {Q : Option Value → (Nat → Nat → Int32) → (Nat → Int64) → Prop} {v1 : Int32} {v2 : Int32}  (K1 : ((I 3162 0) = 0) → XS mX10_figure 11 [(0, .ref 49), (1, .int v1), (2, .int v2)] [] I L Q) (K2 : (¬ (I 3162 0) = 0) → XS mX10_figure 7 [(0, .ref 49), (1, .int v1), (2, .int v2)] [] I L Q) : XS mX10_figure 0 [(0, .ref 49), (1, .int v1), (2, .int v2)] [] I L Q := by
  refine x_aload_n 0 dX10_figure_0 rfl rfl ?_
  refine xs_geti 3162 dX10_figure_1 fl_X10_150 sh_49 rfl rfl ?_
  exact x_if_eq 11 dX10_figure_4 (by decide) (fun h => K1 h) (fun h => K2 h)
theorem bX10_figure_7 {I : Nat → Nat → Int32} {L : Nat → Int64} {Q : Option Value → (Nat → Nat → Int32) → (Nat → Int64) → Prop} {v1 : Int32} {v2 : Int32}  (K : XS mX10_figure 18 [(0, .ref 49), (1, .int v1), (2, .int v2)] [.int (-1 : Int32)] I L Q) : XS mX10_figure 7 [(0, .ref 49), (1, .int v1), (2, .int v2)] [] I L Q := by
  refine x_iconst (v := (-1 : Int32)) dX10_figure_7 (by decide) ?_
  exact x_goto 18 dX10_figure_8 (by decide) (K)
theorem bX10_figure_11 {I : Nat → Nat → Int32} {L : Nat → Int64} {Q : Option Value → (Nat → Nat → Int32) → (Nat → Int64) → Prop} {v1 : Int32} {v2 : Int32}  (K : XS mX10_looks 0 [(0, .ref 49)] [] I L (fun r I' L' => XS mX10_figure 15 [(0, .ref 49), (1, .int v1), (2, .int v2)] (r.toList ++ []) I' L' Q)) : XS mX10_figure 11 [(0, .ref 49), (1, .int v1), (2, .int v2)] [] I L Q := by
  refine x_aload_n 0 dX10_figure_11 rfl rfl ?_
  exact xs_callV mX10_looks [] [] 49 10 0 _ rfl dX10_figure_12 ml_X10_154 qX10_looks rfl ⟨Nat.le_of_ble_eq_true rfl, Nat.le_of_ble_eq_true rfl⟩ ⟨rfl, rfl⟩ (Nat.le_of_ble_eq_true rfl) sh_49 (by decide) rfl (Nat.le_of_ble_eq_true rfl) (K)
theorem bX10_figure_15 {I : Nat → Nat → Int32} {L : Nat → Int64} {Q : Option Value → (Nat → Nat → Int32) → (Nat → Int64) → Prop} {v1 : Int32} {v2 : Int32} {s0 : Int32}  (K : XS mX10_figure 18 [(0, .ref 49), (1, .int v1), (2, .int v2)] [.int (s0 - (48 : Int32))] I L Q) : XS mX10_figure 15 [(0, .ref 49), (1, .int v1), (2, .int v2)] [.int s0] I L Q := by
  refine x_bipush (v := (48 : Int32)) dX10_figure_15 (by decide) ?_
  refine x_isub dX10_figure_17 ?_
  exact K
theorem bX10_figure_18 {I : Nat → Nat → Int32} {L : Nat → Int64} {Q : Option Value → (Nat → Nat → Int32) → (Nat → Int64) → Prop} {v1 : Int32} {v2 : Int32} {s0 : Int32}  (K1 : (¬ (I 3162 0) = 0) → XS mX10_figure 48 [(3, .int s0)] [.ref 49] I L Q) (K2 : ((I 3162 0) = 0) → XS mX10_figure 27 [(0, .ref 49), (1, .int v1), (2, .int v2), (3, .int s0)] [.ref 49] I L Q) : XS mX10_figure 18 [(0, .ref 49), (1, .int v1), (2, .int v2)] [.int s0] I L Q := by
  refine x_istore_n [(0, .ref 49), (1, .int v1), (2, .int v2), (3, .int s0)] dX10_figure_18 rfl (Nat.le_of_ble_eq_true rfl) rfl ?_
  refine x_aload_n 0 dX10_figure_19 rfl rfl ?_
  refine x_aload_n 0 dX10_figure_20 rfl rfl ?_
  refine xs_geti 3162 dX10_figure_21 fl_X10_150 sh_49 rfl rfl ?_
  exact x_if_ne 48 dX10_figure_24 (by decide) (fun h => x_sub [3] rfl (K1 h)) (fun h => K2 h)
theorem bX10_figure_27 {I : Nat → Nat → Int32} {L : Nat → Int64} {Q : Option Value → (Nat → Nat → Int32) → (Nat → Int64) → Prop} {v1 : Int32} {v2 : Int32} {v3 : Int32}  (K1 : (¬ (I 3161 0) = (1 : Int32)) → XS mX10_figure 48 [(3, .int v3)] [.ref 49] I L Q) (K2 : ((I 3161 0) = (1 : Int32)) → XS mX10_figure 35 [(1, .int v1), (2, .int v2), (3, .int v3)] [.ref 49] I L Q) : XS mX10_figure 27 [(0, .ref 49), (1, .int v1), (2, .int v2), (3, .int v3)] [.ref 49] I L Q := by
  refine x_aload_n 0 dX10_figure_27 rfl rfl ?_
  refine xs_geti 3161 dX10_figure_28 fl_X10_140 sh_49 rfl rfl ?_
  refine x_iconst (v := (1 : Int32)) dX10_figure_31 (by decide) ?_
  exact x_icmp_ne 48 dX10_figure_32 (by decide) (fun h => x_sub [3] rfl (K1 h)) (fun h => x_sub [1, 2, 3] rfl (K2 h))
theorem bX10_figure_35 {I : Nat → Nat → Int32} {L : Nat → Int64} {Q : Option Value → (Nat → Nat → Int32) → (Nat → Int64) → Prop} {v1 : Int32} {v2 : Int32} {v3 : Int32}  (K : XS mX10_in 0 [(0, .int v3), (1, .int v1), (2, .int v2)] [] I L (fun r I' L' => XS mX10_figure 41 [(3, .int v3)] (r.toList ++ [.ref 49]) I' L' Q)) : XS mX10_figure 35 [(1, .int v1), (2, .int v2), (3, .int v3)] [.ref 49] I L Q := by
  refine x_iload_n 2 dX10_figure_35 rfl rfl ?_
  refine x_iload_n 0 dX10_figure_36 rfl rfl ?_
  refine x_iload_n 1 dX10_figure_37 rfl rfl ?_
  refine x_sub [2] rfl ?_
  exact xs_callS mX10_in [.int v3, .int v1, .int v2] [.ref 49] 3 _ rfl dX10_figure_38 ml_X10_86 qX10_in rfl ⟨Nat.le_of_ble_eq_true rfl, Nat.le_of_ble_eq_true rfl⟩ ⟨rfl, rfl⟩ (Nat.le_of_ble_eq_true rfl) (Nat.le_of_ble_eq_true rfl) (K)
theorem bX10_figure_41 {I : Nat → Nat → Int32} {L : Nat → Int64} {Q : Option Value → (Nat → Nat → Int32) → (Nat → Int64) → Prop} {v3 : Int32} {s1 : Int32}  (K1 : (s1 = 0) → XS mX10_figure 48 [(3, .int v3)] [.ref 49] I L Q) (K2 : (¬ s1 = 0) → XS mX10_figure 44 [(3, .int v3)] [.ref 49] I L Q) : XS mX10_figure 41 [(3, .int v3)] [.int s1, .ref 49] I L Q := by
  exact x_if_eq 48 dX10_figure_41 (by decide) (fun h => K1 h) (fun h => K2 h)
theorem bX10_figure_44 {I : Nat → Nat → Int32} {L : Nat → Int64} {Q : Option Value → (Nat → Nat → Int32) → (Nat → Int64) → Prop} {v3 : Int32}  (K : XS mX10_figure 49 [(3, .int v3)] [.int (1 : Int32), .ref 49] I L Q) : XS mX10_figure 44 [(3, .int v3)] [.ref 49] I L Q := by
  refine x_iconst (v := (1 : Int32)) dX10_figure_44 (by decide) ?_
  exact x_goto 49 dX10_figure_45 (by decide) (K)
theorem bX10_figure_48 {I : Nat → Nat → Int32} {L : Nat → Int64} {Q : Option Value → (Nat → Nat → Int32) → (Nat → Int64) → Prop} {v3 : Int32}  (K : XS mX10_figure 49 [(3, .int v3)] [.int (0 : Int32), .ref 49] I L Q) : XS mX10_figure 48 [(3, .int v3)] [.ref 49] I L Q := by
  refine x_iconst (v := (0 : Int32)) dX10_figure_48 (by decide) ?_
  exact K
theorem bX10_figure_49 {I : Nat → Nat → Int32} {L : Nat → Int64} {Q : Option Value → (Nat → Nat → Int32) → (Nat → Int64) → Prop} {v3 : Int32} {s1 : Int32}  (K : XS mX10_takes 0 [(0, .ref 49), (1, .int s1)] [] I L (fun r I' L' => XS mX10_figure 52 [(3, .int v3)] (r.toList ++ []) I' L' Q)) : XS mX10_figure 49 [(3, .int v3)] [.int s1, .ref 49] I L Q := by
  exact xs_callV mX10_takes [.int s1] [] 49 10 1 _ rfl dX10_figure_49 ml_X10_158 qX10_takes rfl ⟨Nat.le_of_ble_eq_true rfl, Nat.le_of_ble_eq_true rfl⟩ ⟨rfl, rfl⟩ (Nat.le_of_ble_eq_true rfl) sh_49 (by decide) rfl (Nat.le_of_ble_eq_true rfl) (K)
theorem bX10_figure_52 {I : Nat → Nat → Int32} {L : Nat → Int64} {Q : Option Value → (Nat → Nat → Int32) → (Nat → Int64) → Prop} {v3 : Int32}  (K : Q (some (.int v3)) I L) : XS mX10_figure 52 [(3, .int v3)] [] I L Q := by
  refine x_iload_n 0 dX10_figure_52 rfl rfl ?_
  exact xs_iret dX10_figure_53 rfl rfl K
theorem bX10_readLinkOf_0 {I : Nat → Nat → Int32} {L : Nat → Int64} {Q : Option Value → (Nat → Nat → Int32) → (Nat → Int64) → Prop} {v1 : Int32} {v2 : Int32}  (K : XS mX10_readLinkOf 2 [(0, .ref 49), (1, .int v1), (2, .int v2), (3, .int (0 : Int32))] [] I L Q) : XS mX10_readLinkOf 0 [(0, .ref 49), (1, .int v1), (2, .int v2)] [] I L Q := by
  refine x_iconst (v := (0 : Int32)) dX10_readLinkOf_0 (by decide) ?_
  refine x_istore_n [(0, .ref 49), (1, .int v1), (2, .int v2), (3, .int (0 : Int32))] dX10_readLinkOf_1 rfl (Nat.le_of_ble_eq_true rfl) rfl ?_
  exact K
theorem bX10_readLinkOf_2 {I : Nat → Nat → Int32} {L : Nat → Int64} {Q : Option Value → (Nat → Nat → Int32) → (Nat → Int64) → Prop} {v1 : Int32} {v2 : Int32} {v3 : Int32}  (K1 : ((I 3165 0) ≤ v3) → XS mX10_readLinkOf 58 [] [] I L Q) (K2 : (¬ (I 3165 0) ≤ v3) → XS mX10_readLinkOf 10 [(0, .ref 49), (1, .int v1), (2, .int v2), (3, .int v3)] [] I L Q) : XS mX10_readLinkOf 2 [(0, .ref 49), (1, .int v1), (2, .int v2), (3, .int v3)] [] I L Q := by
  refine x_iload_n 3 dX10_readLinkOf_2 rfl rfl ?_
  refine x_aload_n 0 dX10_readLinkOf_3 rfl rfl ?_
  refine xs_geti 3165 dX10_readLinkOf_4 fl_X10_162 sh_49 rfl rfl ?_
  exact x_icmp_ge 58 dX10_readLinkOf_7 (by decide) (fun h => x_sub [] rfl (K1 h)) (fun h => K2 h)
theorem bX10_readLinkOf_10 {I : Nat → Nat → Int32} {L : Nat → Int64} {Q : Option Value → (Nat → Nat → Int32) → (Nat → Int64) → Prop} {v1 : Int32} {v2 : Int32} {v3 : Int32} (hb1 : vp_in v3 14) (K1 : (¬ (I 4160 (v3.toNatClampNeg)) = v1) → XS mX10_readLinkOf 30 [(0, .ref 49), (1, .int v1), (2, .int v2), (3, .int v3)] [] I L Q) (K2 : ((I 4160 (v3.toNatClampNeg)) = v1) → XS mX10_readLinkOf 20 [(0, .ref 49), (1, .int v1), (2, .int v2), (3, .int v3)] [] I L Q) : XS mX10_readLinkOf 10 [(0, .ref 49), (1, .int v1), (2, .int v2), (3, .int v3)] [] I L Q := by
  refine x_aload_n 0 dX10_readLinkOf_10 rfl rfl ?_
  refine xs_getr dX10_readLinkOf_11 fl_X10_59 sh_49 rfl rf_3166 ?_
  refine x_iload_n 3 dX10_readLinkOf_14 rfl rfl ?_
  refine xs_iald 4160 (v3.toNatClampNeg) dX10_readLinkOf_15 sh_65 rfl rfl hb1 ?_
  refine x_iload_n 1 dX10_readLinkOf_16 rfl rfl ?_
  exact x_icmp_ne 30 dX10_readLinkOf_17 (by decide) (fun h => K1 h) (fun h => K2 h)
theorem bX10_readLinkOf_20 {I : Nat → Nat → Int32} {L : Nat → Int64} {Q : Option Value → (Nat → Nat → Int32) → (Nat → Int64) → Prop} {v1 : Int32} {v2 : Int32} {v3 : Int32} (hb1 : vp_in v3 14) (K1 : ((I 4224 (v3.toNatClampNeg)) = v2) → XS mX10_readLinkOf 50 [(3, .int v3)] [] I L Q) (K2 : (¬ (I 4224 (v3.toNatClampNeg)) = v2) → XS mX10_readLinkOf 30 [(0, .ref 49), (1, .int v1), (2, .int v2), (3, .int v3)] [] I L Q) : XS mX10_readLinkOf 20 [(0, .ref 49), (1, .int v1), (2, .int v2), (3, .int v3)] [] I L Q := by
  refine x_aload_n 0 dX10_readLinkOf_20 rfl rfl ?_
  refine xs_getr dX10_readLinkOf_21 fl_X10_62 sh_49 rfl rf_3167 ?_
  refine x_iload_n 3 dX10_readLinkOf_24 rfl rfl ?_
  refine xs_iald 4224 (v3.toNatClampNeg) dX10_readLinkOf_25 sh_66 rfl rfl hb1 ?_
  refine x_iload_n 2 dX10_readLinkOf_26 rfl rfl ?_
  exact x_icmp_eq 50 dX10_readLinkOf_27 (by decide) (fun h => x_sub [3] rfl (K1 h)) (fun h => K2 h)
theorem bX10_readLinkOf_30 {I : Nat → Nat → Int32} {L : Nat → Int64} {Q : Option Value → (Nat → Nat → Int32) → (Nat → Int64) → Prop} {v1 : Int32} {v2 : Int32} {v3 : Int32} (hb1 : vp_in v3 14) (K1 : (¬ (I 4160 (v3.toNatClampNeg)) = v2) → XS mX10_readLinkOf 52 [(0, .ref 49), (1, .int v1), (2, .int v2), (3, .int v3)] [] I L Q) (K2 : ((I 4160 (v3.toNatClampNeg)) = v2) → XS mX10_readLinkOf 40 [(0, .ref 49), (1, .int v1), (2, .int v2), (3, .int v3)] [] I L Q) : XS mX10_readLinkOf 30 [(0, .ref 49), (1, .int v1), (2, .int v2), (3, .int v3)] [] I L Q := by
  refine x_aload_n 0 dX10_readLinkOf_30 rfl rfl ?_
  refine xs_getr dX10_readLinkOf_31 fl_X10_59 sh_49 rfl rf_3166 ?_
  refine x_iload_n 3 dX10_readLinkOf_34 rfl rfl ?_
  refine xs_iald 4160 (v3.toNatClampNeg) dX10_readLinkOf_35 sh_65 rfl rfl hb1 ?_
  refine x_iload_n 2 dX10_readLinkOf_36 rfl rfl ?_
  exact x_icmp_ne 52 dX10_readLinkOf_37 (by decide) (fun h => K1 h) (fun h => K2 h)
theorem bX10_readLinkOf_40 {I : Nat → Nat → Int32} {L : Nat → Int64} {Q : Option Value → (Nat → Nat → Int32) → (Nat → Int64) → Prop} {v1 : Int32} {v2 : Int32} {v3 : Int32} (hb1 : vp_in v3 14) (K1 : (¬ (I 4224 (v3.toNatClampNeg)) = v1) → XS mX10_readLinkOf 52 [(0, .ref 49), (1, .int v1), (2, .int v2), (3, .int v3)] [] I L Q) (K2 : ((I 4224 (v3.toNatClampNeg)) = v1) → XS mX10_readLinkOf 50 [(3, .int v3)] [] I L Q) : XS mX10_readLinkOf 40 [(0, .ref 49), (1, .int v1), (2, .int v2), (3, .int v3)] [] I L Q := by
  refine x_aload_n 0 dX10_readLinkOf_40 rfl rfl ?_
  refine xs_getr dX10_readLinkOf_41 fl_X10_62 sh_49 rfl rf_3167 ?_
  refine x_iload_n 3 dX10_readLinkOf_44 rfl rfl ?_
  refine xs_iald 4224 (v3.toNatClampNeg) dX10_readLinkOf_45 sh_66 rfl rfl hb1 ?_
  refine x_iload_n 1 dX10_readLinkOf_46 rfl rfl ?_
  exact x_icmp_ne 52 dX10_readLinkOf_47 (by decide) (fun h => K1 h) (fun h => x_sub [3] rfl (K2 h))
theorem bX10_readLinkOf_50 {I : Nat → Nat → Int32} {L : Nat → Int64} {Q : Option Value → (Nat → Nat → Int32) → (Nat → Int64) → Prop} {v3 : Int32}  (K : Q (some (.int v3)) I L) : XS mX10_readLinkOf 50 [(3, .int v3)] [] I L Q := by
  refine x_iload_n 0 dX10_readLinkOf_50 rfl rfl ?_
  exact xs_iret dX10_readLinkOf_51 rfl rfl K
theorem bX10_readLinkOf_52 {I : Nat → Nat → Int32} {L : Nat → Int64} {Q : Option Value → (Nat → Nat → Int32) → (Nat → Int64) → Prop} {v1 : Int32} {v2 : Int32} {v3 : Int32}  (K : XS mX10_readLinkOf 2 [(0, .ref 49), (1, .int v1), (2, .int v2), (3, .int (v3 + (1 : Int32)))] [] I L Q) : XS mX10_readLinkOf 52 [(0, .ref 49), (1, .int v1), (2, .int v2), (3, .int v3)] [] I L Q := by
  refine x_iinc 3 (v3 + (1 : Int32)) [(0, .ref 49), (1, .int v1), (2, .int v2), (3, .int (v3 + (1 : Int32)))] dX10_readLinkOf_52 rfl rfl (Nat.le_of_ble_eq_true rfl) rfl ?_
  exact x_goto 2 dX10_readLinkOf_55 (by decide) (K)
theorem bX10_readLinkOf_58 {I : Nat → Nat → Int32} {L : Nat → Int64} {Q : Option Value → (Nat → Nat → Int32) → (Nat → Int64) → Prop}   (K : Q (some (.int (-1 : Int32))) I L) : XS mX10_readLinkOf 58 [] [] I L Q := by
  refine x_iconst (v := (-1 : Int32)) dX10_readLinkOf_58 (by decide) ?_
  exact xs_iret dX10_readLinkOf_59 rfl rfl K
theorem bX10_isName_0 {I : Nat → Nat → Int32} {L : Nat → Int64} {Q : Option Value → (Nat → Nat → Int32) → (Nat → Int64) → Prop} {v1 : Int32} {v2 : Int32} {v3 : Int32} {v4 : Int32} {v5 : Int32}  (K1 : (¬ v5 = 0) → XS mX10_isName 9 [(0, .ref 49), (1, .int v1), (2, .int v2), (3, .int v3), (4, .int v4), (5, .int v5)] [] I L Q) (K2 : (v5 = 0) → XS mX10_isName 5 [(0, .ref 49), (1, .int v1), (2, .int v2), (3, .int v3), (4, .int v4), (5, .int v5)] [] I L Q) : XS mX10_isName 0 [(0, .ref 49), (1, .int v1), (2, .int v2), (3, .int v3), (4, .int v4), (5, .int v5)] [] I L Q := by
  refine x_iload 5 dX10_isName_0 rfl ?_
  exact x_if_ne 9 dX10_isName_2 (by decide) (fun h => K1 h) (fun h => K2 h)
theorem bX10_isName_5 {I : Nat → Nat → Int32} {L : Nat → Int64} {Q : Option Value → (Nat → Nat → Int32) → (Nat → Int64) → Prop} {v1 : Int32} {v2 : Int32} {v3 : Int32} {v4 : Int32} {v5 : Int32}  (K : XS mX10_isName 10 [(0, .ref 49), (1, .int v1), (2, .int v2), (3, .int v3), (4, .int v4), (5, .int v5)] [.int (4 : Int32)] I L Q) : XS mX10_isName 5 [(0, .ref 49), (1, .int v1), (2, .int v2), (3, .int v3), (4, .int v4), (5, .int v5)] [] I L Q := by
  refine x_iconst (v := (4 : Int32)) dX10_isName_5 (by decide) ?_
  exact x_goto 10 dX10_isName_6 (by decide) (K)
theorem bX10_isName_9 {I : Nat → Nat → Int32} {L : Nat → Int64} {Q : Option Value → (Nat → Nat → Int32) → (Nat → Int64) → Prop} {v1 : Int32} {v2 : Int32} {v3 : Int32} {v4 : Int32} {v5 : Int32}  (K : XS mX10_isName 10 [(0, .ref 49), (1, .int v1), (2, .int v2), (3, .int v3), (4, .int v4), (5, .int v5)] [.int (5 : Int32)] I L Q) : XS mX10_isName 9 [(0, .ref 49), (1, .int v1), (2, .int v2), (3, .int v3), (4, .int v4), (5, .int v5)] [] I L Q := by
  refine x_iconst (v := (5 : Int32)) dX10_isName_9 (by decide) ?_
  exact K
theorem bX10_isName_10 {I : Nat → Nat → Int32} {L : Nat → Int64} {Q : Option Value → (Nat → Nat → Int32) → (Nat → Int64) → Prop} {v1 : Int32} {v2 : Int32} {v3 : Int32} {v4 : Int32} {v5 : Int32} {s0 : Int32}  (K1 : (¬ (I 3161 0) = s0) → XS mX10_isName 68 [(0, .ref 49), (4, .int v4), (5, .int v5)] [] I L Q) (K2 : ((I 3161 0) = s0) → XS mX10_isName 21 [(0, .ref 49), (1, .int v1), (2, .int v2), (3, .int v3), (4, .int v4), (5, .int v5)] [] I L Q) : XS mX10_isName 10 [(0, .ref 49), (1, .int v1), (2, .int v2), (3, .int v3), (4, .int v4), (5, .int v5)] [.int s0] I L Q := by
  refine x_istore [(0, .ref 49), (1, .int v1), (2, .int v2), (3, .int v3), (4, .int v4), (5, .int v5), (6, .int s0)] dX10_isName_10 (Nat.le_of_ble_eq_true rfl) rfl ?_
  refine x_aload_n 0 dX10_isName_12 rfl rfl ?_
  refine xs_geti 3161 dX10_isName_13 fl_X10_140 sh_49 rfl rfl ?_
  refine x_iload 6 dX10_isName_16 rfl ?_
  exact x_icmp_ne 68 dX10_isName_18 (by decide) (fun h => x_sub [0, 4, 5] rfl (K1 h)) (fun h => x_sub [0, 1, 2, 3, 4, 5] rfl (K2 h))
theorem bX10_isName_21 {I : Nat → Nat → Int32} {L : Nat → Int64} {Q : Option Value → (Nat → Nat → Int32) → (Nat → Int64) → Prop} {v1 : Int32} {v2 : Int32} {v3 : Int32} {v4 : Int32} {v5 : Int32} (hb1 : vp_in (I 3160 0) 200) (K1 : (¬ (I 4096 ((I 3160 0).toNatClampNeg)) = v1) → XS mX10_isName 68 [(0, .ref 49), (4, .int v4), (5, .int v5)] [] I L Q) (K2 : ((I 4096 ((I 3160 0).toNatClampNeg)) = v1) → XS mX10_isName 34 [(0, .ref 49), (2, .int v2), (3, .int v3), (4, .int v4), (5, .int v5)] [] I L Q) : XS mX10_isName 21 [(0, .ref 49), (1, .int v1), (2, .int v2), (3, .int v3), (4, .int v4), (5, .int v5)] [] I L Q := by
  refine x_aload_n 0 dX10_isName_21 rfl rfl ?_
  refine xs_getr dX10_isName_22 fl_X10_56 sh_49 rfl rf_3158 ?_
  refine x_aload_n 0 dX10_isName_25 rfl rfl ?_
  refine xs_geti 3160 dX10_isName_26 fl_X10_137 sh_49 rfl rfl ?_
  refine xs_iald 4096 ((I 3160 0).toNatClampNeg) dX10_isName_29 sh_64 rfl rfl hb1 ?_
  refine x_iload_n 1 dX10_isName_30 rfl rfl ?_
  exact x_icmp_ne 68 dX10_isName_31 (by decide) (fun h => x_sub [0, 4, 5] rfl (K1 h)) (fun h => x_sub [0, 2, 3, 4, 5] rfl (K2 h))
theorem bX10_isName_34 {I : Nat → Nat → Int32} {L : Nat → Int64} {Q : Option Value → (Nat → Nat → Int32) → (Nat → Int64) → Prop} {v2 : Int32} {v3 : Int32} {v4 : Int32} {v5 : Int32} (hb1 : vp_in ((I 3160 0) + (1 : Int32)) 200) (K1 : (¬ (I 4096 (((I 3160 0) + (1 : Int32)).toNatClampNeg)) = v2) → XS mX10_isName 68 [(0, .ref 49), (4, .int v4), (5, .int v5)] [] I L Q) (K2 : ((I 4096 (((I 3160 0) + (1 : Int32)).toNatClampNeg)) = v2) → XS mX10_isName 49 [(0, .ref 49), (3, .int v3), (4, .int v4), (5, .int v5)] [] I L Q) : XS mX10_isName 34 [(0, .ref 49), (2, .int v2), (3, .int v3), (4, .int v4), (5, .int v5)] [] I L Q := by
  refine x_aload_n 0 dX10_isName_34 rfl rfl ?_
  refine xs_getr dX10_isName_35 fl_X10_56 sh_49 rfl rf_3158 ?_
  refine x_aload_n 0 dX10_isName_38 rfl rfl ?_
  refine xs_geti 3160 dX10_isName_39 fl_X10_137 sh_49 rfl rfl ?_
  refine x_iconst (v := (1 : Int32)) dX10_isName_42 (by decide) ?_
  refine x_iadd dX10_isName_43 ?_
  refine xs_iald 4096 (((I 3160 0) + (1 : Int32)).toNatClampNeg) dX10_isName_44 sh_64 rfl rfl hb1 ?_
  refine x_iload_n 1 dX10_isName_45 rfl rfl ?_
  exact x_icmp_ne 68 dX10_isName_46 (by decide) (fun h => x_sub [0, 3, 4] rfl (K1 h)) (fun h => x_sub [0, 2, 3, 4] rfl (K2 h))
theorem bX10_isName_49 {I : Nat → Nat → Int32} {L : Nat → Int64} {Q : Option Value → (Nat → Nat → Int32) → (Nat → Int64) → Prop} {v3 : Int32} {v4 : Int32} {v5 : Int32} (hb1 : vp_in ((I 3160 0) + (2 : Int32)) 200) (K1 : (¬ (I 4096 (((I 3160 0) + (2 : Int32)).toNatClampNeg)) = v3) → XS mX10_isName 68 [(0, .ref 49), (4, .int v4), (5, .int v5)] [] I L Q) (K2 : ((I 4096 (((I 3160 0) + (2 : Int32)).toNatClampNeg)) = v3) → XS mX10_isName 64 [(0, .ref 49), (4, .int v4), (5, .int v5)] [] I L Q) : XS mX10_isName 49 [(0, .ref 49), (3, .int v3), (4, .int v4), (5, .int v5)] [] I L Q := by
  refine x_aload_n 0 dX10_isName_49 rfl rfl ?_
  refine xs_getr dX10_isName_50 fl_X10_56 sh_49 rfl rf_3158 ?_
  refine x_aload_n 0 dX10_isName_53 rfl rfl ?_
  refine xs_geti 3160 dX10_isName_54 fl_X10_137 sh_49 rfl rfl ?_
  refine x_iconst (v := (2 : Int32)) dX10_isName_57 (by decide) ?_
  refine x_iadd dX10_isName_58 ?_
  refine xs_iald 4096 (((I 3160 0) + (2 : Int32)).toNatClampNeg) dX10_isName_59 sh_64 rfl rfl hb1 ?_
  refine x_iload_n 1 dX10_isName_60 rfl rfl ?_
  exact x_icmp_ne 68 dX10_isName_61 (by decide) (fun h => x_sub [0, 2, 3] rfl (K1 h)) (fun h => x_sub [0, 2, 3] rfl (K2 h))
theorem bX10_isName_64 {I : Nat → Nat → Int32} {L : Nat → Int64} {Q : Option Value → (Nat → Nat → Int32) → (Nat → Int64) → Prop} {v4 : Int32} {v5 : Int32}  (K : XS mX10_isName 69 [(0, .ref 49), (4, .int v4), (5, .int v5)] [.int (1 : Int32)] I L Q) : XS mX10_isName 64 [(0, .ref 49), (4, .int v4), (5, .int v5)] [] I L Q := by
  refine x_iconst (v := (1 : Int32)) dX10_isName_64 (by decide) ?_
  exact x_goto 69 dX10_isName_65 (by decide) (K)
theorem bX10_isName_68 {I : Nat → Nat → Int32} {L : Nat → Int64} {Q : Option Value → (Nat → Nat → Int32) → (Nat → Int64) → Prop} {v4 : Int32} {v5 : Int32}  (K : XS mX10_isName 69 [(0, .ref 49), (4, .int v4), (5, .int v5)] [.int (0 : Int32)] I L Q) : XS mX10_isName 68 [(0, .ref 49), (4, .int v4), (5, .int v5)] [] I L Q := by
  refine x_iconst (v := (0 : Int32)) dX10_isName_68 (by decide) ?_
  exact K
theorem bX10_isName_69 {I : Nat → Nat → Int32} {L : Nat → Int64} {Q : Option Value → (Nat → Nat → Int32) → (Nat → Int64) → Prop} {v4 : Int32} {v5 : Int32} {s0 : Int32}  (K1 : (s0 = 0) → XS mX10_isName 117 [] [] I L Q) (K2 : (¬ s0 = 0) → XS mX10_isName 76 [(0, .ref 49), (4, .int v4), (5, .int v5)] [] I L Q) : XS mX10_isName 69 [(0, .ref 49), (4, .int v4), (5, .int v5)] [.int s0] I L Q := by
  refine x_istore [(0, .ref 49), (4, .int v4), (5, .int v5), (7, .int s0)] dX10_isName_69 (Nat.le_of_ble_eq_true rfl) rfl ?_
  refine x_iload 3 dX10_isName_71 rfl ?_
  exact x_if_eq 117 dX10_isName_73 (by decide) (fun h => x_sub [] rfl (K1 h)) (fun h => x_sub [0, 1, 2] rfl (K2 h))
theorem bX10_isName_76 {I : Nat → Nat → Int32} {L : Nat → Int64} {Q : Option Value → (Nat → Nat → Int32) → (Nat → Int64) → Prop} {v4 : Int32} {v5 : Int32} (hb1 : vp_in ((I 3160 0) + (3 : Int32)) 200) (K1 : (¬ (I 4096 (((I 3160 0) + (3 : Int32)).toNatClampNeg)) = v4) → XS mX10_isName 117 [] [] I L Q) (K2 : ((I 4096 (((I 3160 0) + (3 : Int32)).toNatClampNeg)) = v4) → XS mX10_isName 92 [(0, .ref 49), (5, .int v5)] [] I L Q) : XS mX10_isName 76 [(0, .ref 49), (4, .int v4), (5, .int v5)] [] I L Q := by
  refine x_aload_n 0 dX10_isName_76 rfl rfl ?_
  refine xs_getr dX10_isName_77 fl_X10_56 sh_49 rfl rf_3158 ?_
  refine x_aload_n 0 dX10_isName_80 rfl rfl ?_
  refine xs_geti 3160 dX10_isName_81 fl_X10_137 sh_49 rfl rfl ?_
  refine x_iconst (v := (3 : Int32)) dX10_isName_84 (by decide) ?_
  refine x_iadd dX10_isName_85 ?_
  refine xs_iald 4096 (((I 3160 0) + (3 : Int32)).toNatClampNeg) dX10_isName_86 sh_64 rfl rfl hb1 ?_
  refine x_iload 1 dX10_isName_87 rfl ?_
  exact x_icmp_ne 117 dX10_isName_89 (by decide) (fun h => x_sub [] rfl (K1 h)) (fun h => x_sub [0, 2] rfl (K2 h))
theorem bX10_isName_92 {I : Nat → Nat → Int32} {L : Nat → Int64} {Q : Option Value → (Nat → Nat → Int32) → (Nat → Int64) → Prop} {v5 : Int32}  (K1 : (v5 = 0) → XS mX10_isName 113 [] [] I L Q) (K2 : (¬ v5 = 0) → XS mX10_isName 97 [(0, .ref 49), (5, .int v5)] [] I L Q) : XS mX10_isName 92 [(0, .ref 49), (5, .int v5)] [] I L Q := by
  refine x_iload 1 dX10_isName_92 rfl ?_
  exact x_if_eq 113 dX10_isName_94 (by decide) (fun h => x_sub [] rfl (K1 h)) (fun h => K2 h)
theorem bX10_isName_97 {I : Nat → Nat → Int32} {L : Nat → Int64} {Q : Option Value → (Nat → Nat → Int32) → (Nat → Int64) → Prop} {v5 : Int32} (hb1 : vp_in ((I 3160 0) + (4 : Int32)) 200) (K1 : (¬ (I 4096 (((I 3160 0) + (4 : Int32)).toNatClampNeg)) = v5) → XS mX10_isName 117 [] [] I L Q) (K2 : ((I 4096 (((I 3160 0) + (4 : Int32)).toNatClampNeg)) = v5) → XS mX10_isName 113 [] [] I L Q) : XS mX10_isName 97 [(0, .ref 49), (5, .int v5)] [] I L Q := by
  refine x_aload_n 0 dX10_isName_97 rfl rfl ?_
  refine xs_getr dX10_isName_98 fl_X10_56 sh_49 rfl rf_3158 ?_
  refine x_aload_n 0 dX10_isName_101 rfl rfl ?_
  refine xs_geti 3160 dX10_isName_102 fl_X10_137 sh_49 rfl rfl ?_
  refine x_iconst (v := (4 : Int32)) dX10_isName_105 (by decide) ?_
  refine x_iadd dX10_isName_106 ?_
  refine xs_iald 4096 (((I 3160 0) + (4 : Int32)).toNatClampNeg) dX10_isName_107 sh_64 rfl rfl hb1 ?_
  refine x_iload 1 dX10_isName_108 rfl ?_
  exact x_icmp_ne 117 dX10_isName_110 (by decide) (fun h => x_sub [] rfl (K1 h)) (fun h => x_sub [] rfl (K2 h))
theorem bX10_isName_113 {I : Nat → Nat → Int32} {L : Nat → Int64} {Q : Option Value → (Nat → Nat → Int32) → (Nat → Int64) → Prop}   (K : XS mX10_isName 118 [] [.int (1 : Int32)] I L Q) : XS mX10_isName 113 [] [] I L Q := by
  refine x_iconst (v := (1 : Int32)) dX10_isName_113 (by decide) ?_
  exact x_goto 118 dX10_isName_114 (by decide) (K)
theorem bX10_isName_117 {I : Nat → Nat → Int32} {L : Nat → Int64} {Q : Option Value → (Nat → Nat → Int32) → (Nat → Int64) → Prop}   (K : XS mX10_isName 118 [] [.int (0 : Int32)] I L Q) : XS mX10_isName 117 [] [] I L Q := by
  refine x_iconst (v := (0 : Int32)) dX10_isName_117 (by decide) ?_
  exact K
theorem bX10_isName_118 {I : Nat → Nat → Int32} {L : Nat → Int64} {Q : Option Value → (Nat → Nat → Int32) → (Nat → Int64) → Prop} {s0 : Int32} (hz1 : s0 = 0 ∨ s0 = 1) (K : Q (some (.int s0)) I L) : XS mX10_isName 118 [] [.int s0] I L Q := by
  exact xs_iret dX10_isName_118 rfl (x_nar _ hz1) K
theorem bX10_readsNodes_0 {I : Nat → Nat → Int32} {L : Nat → Int64} {Q : Option Value → (Nat → Nat → Int32) → (Nat → Int64) → Prop}   (K : XS mX10_figure 0 [(0, .ref 49), (1, .int (2 : Int32)), (2, .int (8 : Int32))] [] I L (fun r I' L' => XS mX10_readsNodes 7 [(0, .ref 49)] (r.toList ++ []) I' L' Q)) : XS mX10_readsNodes 0 [(0, .ref 49)] [] I L Q := by
  refine x_aload_n 0 dX10_readsNodes_0 rfl rfl ?_
  refine x_iconst (v := (2 : Int32)) dX10_readsNodes_1 (by decide) ?_
  refine x_bipush (v := (8 : Int32)) dX10_readsNodes_2 (by decide) ?_
  exact xs_callV mX10_figure [.int (2 : Int32), .int (8 : Int32)] [] 49 10 2 _ rfl dX10_readsNodes_4 ml_X10_165 qX10_figure rfl ⟨Nat.le_of_ble_eq_true rfl, Nat.le_of_ble_eq_true rfl⟩ ⟨rfl, rfl⟩ (Nat.le_of_ble_eq_true rfl) sh_49 (by decide) rfl (Nat.le_of_ble_eq_true rfl) (K)
theorem bX10_readsNodes_7 {I : Nat → Nat → Int32} {L : Nat → Int64} {Q : Option Value → (Nat → Nat → Int32) → (Nat → Int64) → Prop} {s0 : Int32}  (K1 : ((I 3162 0) = 0) → XS mX10_readsNodes 16 [(0, .ref 49), (1, .int s0)] [] I L Q) (K2 : (¬ (I 3162 0) = 0) → XS mX10_readsNodes 15 [] [] I L Q) : XS mX10_readsNodes 7 [(0, .ref 49)] [.int s0] I L Q := by
  refine x_istore_n [(0, .ref 49), (1, .int s0)] dX10_readsNodes_7 rfl (Nat.le_of_ble_eq_true rfl) rfl ?_
  refine x_aload_n 0 dX10_readsNodes_8 rfl rfl ?_
  refine xs_geti 3162 dX10_readsNodes_9 fl_X10_150 sh_49 rfl rfl ?_
  exact x_if_eq 16 dX10_readsNodes_12 (by decide) (fun h => K1 h) (fun h => x_sub [] rfl (K2 h))
theorem bX10_readsNodes_15 {I : Nat → Nat → Int32} {L : Nat → Int64} {Q : Option Value → (Nat → Nat → Int32) → (Nat → Int64) → Prop}   (K : Q none I L) : XS mX10_readsNodes 15 [] [] I L Q := by
  exact xs_end dX10_readsNodes_15 rfl K
theorem bX10_readsNodes_16 {I : Nat → Nat → Int32} {L : Nat → Int64} {Q : Option Value → (Nat → Nat → Int32) → (Nat → Int64) → Prop} {v1 : Int32}  (K1 : (((x_up (x_up I 3164 0 v1) 3165 0 (0 : Int32)) 3163 0) = 0) → XS mX10_readsNodes 90 [] [] (x_up (x_up I 3164 0 v1) 3165 0 (0 : Int32)) L Q) (K2 : (¬ ((x_up (x_up I 3164 0 v1) 3165 0 (0 : Int32)) 3163 0) = 0) → XS mX10_readsNodes 33 [(0, .ref 49), (1, .int v1)] [] (x_up (x_up I 3164 0 v1) 3165 0 (0 : Int32)) L Q) : XS mX10_readsNodes 16 [(0, .ref 49), (1, .int v1)] [] I L Q := by
  refine x_aload_n 0 dX10_readsNodes_16 rfl rfl ?_
  refine x_iload_n 1 dX10_readsNodes_17 rfl rfl ?_
  refine xs_puti 3164 dX10_readsNodes_18 fl_X10_168 sh_49 rfl rfl rfl ?_
  refine x_aload_n 0 dX10_readsNodes_21 rfl rfl ?_
  refine x_iconst (v := (0 : Int32)) dX10_readsNodes_22 (by decide) ?_
  refine xs_puti 3165 dX10_readsNodes_23 fl_X10_162 sh_49 rfl rfl rfl ?_
  refine x_aload_n 0 dX10_readsNodes_26 rfl rfl ?_
  refine xs_geti 3163 dX10_readsNodes_27 fl_X10_171 sh_49 rfl rfl ?_
  exact x_if_eq 90 dX10_readsNodes_30 (by decide) (fun h => x_sub [] rfl (K1 h)) (fun h => K2 h)
theorem bX10_readsNodes_33 {I : Nat → Nat → Int32} {L : Nat → Int64} {Q : Option Value → (Nat → Nat → Int32) → (Nat → Int64) → Prop} {v1 : Int32}  (K : XS mX10_readsNodes 68 [(0, .ref 49), (2, .int (0 : Int32))] [] (x_up (x_up (x_up (x_up (x_up (x_up I 3136 0 v1) 3137 0 (0 : Int32)) 3144 0 (0 : Int32)) 3147 0 (0 : Int32)) 3149 0 (0 : Int32)) 3392 28 (0 : Int32)) L Q) : XS mX10_readsNodes 33 [(0, .ref 49), (1, .int v1)] [] I L Q := by
  refine x_aload_n 0 dX10_readsNodes_33 rfl rfl ?_
  refine x_iload_n 1 dX10_readsNodes_34 rfl rfl ?_
  refine xs_puti 3136 dX10_readsNodes_35 fl_X10_7 sh_49 rfl rfl rfl ?_
  refine x_aload_n 0 dX10_readsNodes_38 rfl rfl ?_
  refine x_iconst (v := (0 : Int32)) dX10_readsNodes_39 (by decide) ?_
  refine xs_puti 3137 dX10_readsNodes_40 fl_X10_90 sh_49 rfl rfl rfl ?_
  refine x_aload_n 0 dX10_readsNodes_43 rfl rfl ?_
  refine x_iconst (v := (0 : Int32)) dX10_readsNodes_44 (by decide) ?_
  refine xs_puti 3144 dX10_readsNodes_45 fl_X10_174 sh_49 rfl rfl rfl ?_
  refine x_aload_n 0 dX10_readsNodes_48 rfl rfl ?_
  refine x_iconst (v := (0 : Int32)) dX10_readsNodes_49 (by decide) ?_
  refine xs_puti 3147 dX10_readsNodes_50 fl_X10_177 sh_49 rfl rfl rfl ?_
  refine x_aload_n 0 dX10_readsNodes_53 rfl rfl ?_
  refine x_iconst (v := (0 : Int32)) dX10_readsNodes_54 (by decide) ?_
  refine xs_puti 3149 dX10_readsNodes_55 fl_X10_180 sh_49 rfl rfl rfl ?_
  refine x_aload_n 0 dX10_readsNodes_58 rfl rfl ?_
  refine xs_getr dX10_readsNodes_59 fl_X10_23 sh_49 rfl rf_3141 ?_
  refine x_bipush (v := (28 : Int32)) dX10_readsNodes_62 (by decide) ?_
  refine x_iconst (v := (0 : Int32)) dX10_readsNodes_64 (by decide) ?_
  refine xs_iast 3392 (28) dX10_readsNodes_65 sh_53 rfl (by decide) (x_vpin (by decide)) ?_
  refine x_iconst (v := (0 : Int32)) dX10_readsNodes_66 (by decide) ?_
  refine x_istore_n [(0, .ref 49), (1, .int v1), (2, .int (0 : Int32))] dX10_readsNodes_67 rfl (Nat.le_of_ble_eq_true rfl) rfl ?_
  exact x_sub [0, 2] rfl (K)
theorem bX10_readsNodes_68 {I : Nat → Nat → Int32} {L : Nat → Int64} {Q : Option Value → (Nat → Nat → Int32) → (Nat → Int64) → Prop} {v2 : Int32}  (K1 : ((8 : Int32) ≤ v2) → XS mX10_readsNodes 90 [] [] I L Q) (K2 : (¬ (8 : Int32) ≤ v2) → XS mX10_readsNodes 74 [(0, .ref 49), (2, .int v2)] [] I L Q) : XS mX10_readsNodes 68 [(0, .ref 49), (2, .int v2)] [] I L Q := by
  refine x_iload_n 1 dX10_readsNodes_68 rfl rfl ?_
  refine x_bipush (v := (8 : Int32)) dX10_readsNodes_69 (by decide) ?_
  exact x_icmp_ge 90 dX10_readsNodes_71 (by decide) (fun h => x_sub [] rfl (K1 h)) (fun h => K2 h)
theorem bX10_readsNodes_74 {I : Nat → Nat → Int32} {L : Nat → Int64} {Q : Option Value → (Nat → Nat → Int32) → (Nat → Int64) → Prop} {v2 : Int32} (hb1 : vp_in ((29 : Int32) + v2) 37) (K : XS mX10_readsNodes 68 [(0, .ref 49), (2, .int (v2 + (1 : Int32)))] [] (x_up I 3392 (((29 : Int32) + v2).toNatClampNeg) (0 : Int32)) L Q) : XS mX10_readsNodes 74 [(0, .ref 49), (2, .int v2)] [] I L Q := by
  refine x_aload_n 0 dX10_readsNodes_74 rfl rfl ?_
  refine xs_getr dX10_readsNodes_75 fl_X10_23 sh_49 rfl rf_3141 ?_
  refine x_bipush (v := (29 : Int32)) dX10_readsNodes_78 (by decide) ?_
  refine x_iload_n 1 dX10_readsNodes_80 rfl rfl ?_
  refine x_iadd dX10_readsNodes_81 ?_
  refine x_iconst (v := (0 : Int32)) dX10_readsNodes_82 (by decide) ?_
  refine xs_iast 3392 (((29 : Int32) + v2).toNatClampNeg) dX10_readsNodes_83 sh_53 rfl rfl hb1 ?_
  refine x_iinc 1 (v2 + (1 : Int32)) [(0, .ref 49), (2, .int (v2 + (1 : Int32)))] dX10_readsNodes_84 rfl rfl (Nat.le_of_ble_eq_true rfl) rfl ?_
  exact x_goto 68 dX10_readsNodes_87 (by decide) (K)
theorem bX10_readsNodes_90 {I : Nat → Nat → Int32} {L : Nat → Int64} {Q : Option Value → (Nat → Nat → Int32) → (Nat → Int64) → Prop}   (K : Q none I L) : XS mX10_readsNodes 90 [] [] I L Q := by
  exact xs_end dX10_readsNodes_90 rfl K
theorem bX10_readsLink_0 {I : Nat → Nat → Int32} {L : Nat → Int64} {Q : Option Value → (Nat → Nat → Int32) → (Nat → Int64) → Prop}   (K : XS mX10_figure 0 [(0, .ref 49), (1, .int (0 : Int32)), (2, .int ((I 3164 0) - (1 : Int32)))] [] I L (fun r I' L' => XS mX10_readsLink 11 [(0, .ref 49)] (r.toList ++ []) I' L' Q)) : XS mX10_readsLink 0 [(0, .ref 49)] [] I L Q := by
  refine x_aload_n 0 dX10_readsLink_0 rfl rfl ?_
  refine x_iconst (v := (0 : Int32)) dX10_readsLink_1 (by decide) ?_
  refine x_aload_n 0 dX10_readsLink_2 rfl rfl ?_
  refine xs_geti 3164 dX10_readsLink_3 fl_X10_168 sh_49 rfl rfl ?_
  refine x_iconst (v := (1 : Int32)) dX10_readsLink_6 (by decide) ?_
  refine x_isub dX10_readsLink_7 ?_
  exact xs_callV mX10_figure [.int (0 : Int32), .int ((I 3164 0) - (1 : Int32))] [] 49 10 2 _ rfl dX10_readsLink_8 ml_X10_165 qX10_figure rfl ⟨Nat.le_of_ble_eq_true rfl, Nat.le_of_ble_eq_true rfl⟩ ⟨rfl, rfl⟩ (Nat.le_of_ble_eq_true rfl) sh_49 (by decide) rfl (Nat.le_of_ble_eq_true rfl) (K)
theorem bX10_readsLink_11 {I : Nat → Nat → Int32} {L : Nat → Int64} {Q : Option Value → (Nat → Nat → Int32) → (Nat → Int64) → Prop} {s0 : Int32}  (K1 : ((I 3162 0) = 0) → XS mX10_readsLink 23 [(0, .ref 49), (1, .int s0)] [] I L Q) (K2 : (¬ (I 3162 0) = 0) → XS mX10_readsLink 19 [(0, .ref 49), (1, .int s0)] [] I L Q) : XS mX10_readsLink 11 [(0, .ref 49)] [.int s0] I L Q := by
  refine x_istore_n [(0, .ref 49), (1, .int s0)] dX10_readsLink_11 rfl (Nat.le_of_ble_eq_true rfl) rfl ?_
  refine x_aload_n 0 dX10_readsLink_12 rfl rfl ?_
  refine xs_geti 3162 dX10_readsLink_13 fl_X10_150 sh_49 rfl rfl ?_
  exact x_if_eq 23 dX10_readsLink_16 (by decide) (fun h => K1 h) (fun h => K2 h)
theorem bX10_readsLink_19 {I : Nat → Nat → Int32} {L : Nat → Int64} {Q : Option Value → (Nat → Nat → Int32) → (Nat → Int64) → Prop} {v1 : Int32}  (K : XS mX10_readsLink 30 [(0, .ref 49), (1, .int v1)] [.int (-1 : Int32)] I L Q) : XS mX10_readsLink 19 [(0, .ref 49), (1, .int v1)] [] I L Q := by
  refine x_iconst (v := (-1 : Int32)) dX10_readsLink_19 (by decide) ?_
  exact x_goto 30 dX10_readsLink_20 (by decide) (K)
theorem bX10_readsLink_23 {I : Nat → Nat → Int32} {L : Nat → Int64} {Q : Option Value → (Nat → Nat → Int32) → (Nat → Int64) → Prop} {v1 : Int32}  (K : XS mX10_looks 0 [(0, .ref 49)] [] I L (fun r I' L' => XS mX10_readsLink 27 [(0, .ref 49), (1, .int v1)] (r.toList ++ []) I' L' Q)) : XS mX10_readsLink 23 [(0, .ref 49), (1, .int v1)] [] I L Q := by
  refine x_aload_n 0 dX10_readsLink_23 rfl rfl ?_
  exact xs_callV mX10_looks [] [] 49 10 0 _ rfl dX10_readsLink_24 ml_X10_154 qX10_looks rfl ⟨Nat.le_of_ble_eq_true rfl, Nat.le_of_ble_eq_true rfl⟩ ⟨rfl, rfl⟩ (Nat.le_of_ble_eq_true rfl) sh_49 (by decide) rfl (Nat.le_of_ble_eq_true rfl) (K)
theorem bX10_readsLink_27 {I : Nat → Nat → Int32} {L : Nat → Int64} {Q : Option Value → (Nat → Nat → Int32) → (Nat → Int64) → Prop} {v1 : Int32} {s0 : Int32}  (K : XS mX10_readsLink 30 [(0, .ref 49), (1, .int v1)] [.int (s0 - (48 : Int32))] I L Q) : XS mX10_readsLink 27 [(0, .ref 49), (1, .int v1)] [.int s0] I L Q := by
  refine x_bipush (v := (48 : Int32)) dX10_readsLink_27 (by decide) ?_
  refine x_isub dX10_readsLink_29 ?_
  exact K
theorem bX10_readsLink_30 {I : Nat → Nat → Int32} {L : Nat → Int64} {Q : Option Value → (Nat → Nat → Int32) → (Nat → Int64) → Prop} {v1 : Int32} {s0 : Int32}  (K1 : (¬ (I 3162 0) = 0) → XS mX10_readsLink 69 [(0, .ref 49), (1, .int v1), (2, .int s0)] [] I L Q) (K2 : ((I 3162 0) = 0) → XS mX10_readsLink 38 [(0, .ref 49), (1, .int v1), (2, .int s0)] [] I L Q) : XS mX10_readsLink 30 [(0, .ref 49), (1, .int v1)] [.int s0] I L Q := by
  refine x_istore_n [(0, .ref 49), (1, .int v1), (2, .int s0)] dX10_readsLink_30 rfl (Nat.le_of_ble_eq_true rfl) rfl ?_
  refine x_aload_n 0 dX10_readsLink_31 rfl rfl ?_
  refine xs_geti 3162 dX10_readsLink_32 fl_X10_150 sh_49 rfl rfl ?_
  exact x_if_ne 69 dX10_readsLink_35 (by decide) (fun h => K1 h) (fun h => K2 h)
theorem bX10_readsLink_38 {I : Nat → Nat → Int32} {L : Nat → Int64} {Q : Option Value → (Nat → Nat → Int32) → (Nat → Int64) → Prop} {v1 : Int32} {v2 : Int32}  (K1 : (¬ (I 3161 0) = (1 : Int32)) → XS mX10_readsLink 69 [(0, .ref 49), (1, .int v1), (2, .int v2)] [] I L Q) (K2 : ((I 3161 0) = (1 : Int32)) → XS mX10_readsLink 46 [(0, .ref 49), (1, .int v1), (2, .int v2)] [] I L Q) : XS mX10_readsLink 38 [(0, .ref 49), (1, .int v1), (2, .int v2)] [] I L Q := by
  refine x_aload_n 0 dX10_readsLink_38 rfl rfl ?_
  refine xs_geti 3161 dX10_readsLink_39 fl_X10_140 sh_49 rfl rfl ?_
  refine x_iconst (v := (1 : Int32)) dX10_readsLink_42 (by decide) ?_
  exact x_icmp_ne 69 dX10_readsLink_43 (by decide) (fun h => K1 h) (fun h => K2 h)
theorem bX10_readsLink_46 {I : Nat → Nat → Int32} {L : Nat → Int64} {Q : Option Value → (Nat → Nat → Int32) → (Nat → Int64) → Prop} {v1 : Int32} {v2 : Int32}  (K : XS mX10_in 0 [(0, .int v2), (1, .int (0 : Int32)), (2, .int ((I 3164 0) - (1 : Int32)))] [] I L (fun r I' L' => XS mX10_readsLink 57 [(0, .ref 49), (1, .int v1), (2, .int v2)] (r.toList ++ []) I' L' Q)) : XS mX10_readsLink 46 [(0, .ref 49), (1, .int v1), (2, .int v2)] [] I L Q := by
  refine x_iload_n 2 dX10_readsLink_46 rfl rfl ?_
  refine x_iconst (v := (0 : Int32)) dX10_readsLink_47 (by decide) ?_
  refine x_aload_n 0 dX10_readsLink_48 rfl rfl ?_
  refine xs_geti 3164 dX10_readsLink_49 fl_X10_168 sh_49 rfl rfl ?_
  refine x_iconst (v := (1 : Int32)) dX10_readsLink_52 (by decide) ?_
  refine x_isub dX10_readsLink_53 ?_
  exact xs_callS mX10_in [.int v2, .int (0 : Int32), .int ((I 3164 0) - (1 : Int32))] [] 3 _ rfl dX10_readsLink_54 ml_X10_86 qX10_in rfl ⟨Nat.le_of_ble_eq_true rfl, Nat.le_of_ble_eq_true rfl⟩ ⟨rfl, rfl⟩ (Nat.le_of_ble_eq_true rfl) (Nat.le_of_ble_eq_true rfl) (K)
theorem bX10_readsLink_57 {I : Nat → Nat → Int32} {L : Nat → Int64} {Q : Option Value → (Nat → Nat → Int32) → (Nat → Int64) → Prop} {v1 : Int32} {v2 : Int32} {s0 : Int32}  (K1 : (s0 = 0) → XS mX10_readsLink 69 [(0, .ref 49), (1, .int v1), (2, .int v2)] [] I L Q) (K2 : (¬ s0 = 0) → XS mX10_readsLink 60 [(0, .ref 49), (1, .int v1), (2, .int v2)] [] I L Q) : XS mX10_readsLink 57 [(0, .ref 49), (1, .int v1), (2, .int v2)] [.int s0] I L Q := by
  exact x_if_eq 69 dX10_readsLink_57 (by decide) (fun h => K1 h) (fun h => K2 h)
theorem bX10_readsLink_60 {I : Nat → Nat → Int32} {L : Nat → Int64} {Q : Option Value → (Nat → Nat → Int32) → (Nat → Int64) → Prop} {v1 : Int32} {v2 : Int32}  (K1 : (v2 = v1) → XS mX10_readsLink 69 [(0, .ref 49), (1, .int v1), (2, .int v2)] [] I L Q) (K2 : (¬ v2 = v1) → XS mX10_readsLink 65 [(0, .ref 49), (1, .int v1), (2, .int v2)] [] I L Q) : XS mX10_readsLink 60 [(0, .ref 49), (1, .int v1), (2, .int v2)] [] I L Q := by
  refine x_iload_n 2 dX10_readsLink_60 rfl rfl ?_
  refine x_iload_n 1 dX10_readsLink_61 rfl rfl ?_
  exact x_icmp_eq 69 dX10_readsLink_62 (by decide) (fun h => K1 h) (fun h => K2 h)
theorem bX10_readsLink_65 {I : Nat → Nat → Int32} {L : Nat → Int64} {Q : Option Value → (Nat → Nat → Int32) → (Nat → Int64) → Prop} {v1 : Int32} {v2 : Int32}  (K : XS mX10_readsLink 70 [(0, .ref 49), (1, .int v1), (2, .int v2)] [.int (1 : Int32)] I L Q) : XS mX10_readsLink 65 [(0, .ref 49), (1, .int v1), (2, .int v2)] [] I L Q := by
  refine x_iconst (v := (1 : Int32)) dX10_readsLink_65 (by decide) ?_
  exact x_goto 70 dX10_readsLink_66 (by decide) (K)
theorem bX10_readsLink_69 {I : Nat → Nat → Int32} {L : Nat → Int64} {Q : Option Value → (Nat → Nat → Int32) → (Nat → Int64) → Prop} {v1 : Int32} {v2 : Int32}  (K : XS mX10_readsLink 70 [(0, .ref 49), (1, .int v1), (2, .int v2)] [.int (0 : Int32)] I L Q) : XS mX10_readsLink 69 [(0, .ref 49), (1, .int v1), (2, .int v2)] [] I L Q := by
  refine x_iconst (v := (0 : Int32)) dX10_readsLink_69 (by decide) ?_
  exact K
theorem bX10_readsLink_70 {I : Nat → Nat → Int32} {L : Nat → Int64} {Q : Option Value → (Nat → Nat → Int32) → (Nat → Int64) → Prop} {v1 : Int32} {v2 : Int32} {s0 : Int32}  (K1 : (s0 = 0) → XS mX10_readsLink 99 [(0, .ref 49), (1, .int v1), (2, .int v2)] [.ref 49] I L Q) (K2 : (¬ s0 = 0) → XS mX10_readsLink 76 [(0, .ref 49), (1, .int v1), (2, .int v2)] [.ref 49] I L Q) : XS mX10_readsLink 70 [(0, .ref 49), (1, .int v1), (2, .int v2)] [.int s0] I L Q := by
  refine x_istore_n [(0, .ref 49), (1, .int v1), (2, .int v2), (3, .int s0)] dX10_readsLink_70 rfl (Nat.le_of_ble_eq_true rfl) rfl ?_
  refine x_aload_n 0 dX10_readsLink_71 rfl rfl ?_
  refine x_iload_n 3 dX10_readsLink_72 rfl rfl ?_
  exact x_if_eq 99 dX10_readsLink_73 (by decide) (fun h => x_sub [0, 1, 2] rfl (K1 h)) (fun h => x_sub [0, 1, 2] rfl (K2 h))
theorem bX10_readsLink_76 {I : Nat → Nat → Int32} {L : Nat → Int64} {Q : Option Value → (Nat → Nat → Int32) → (Nat → Int64) → Prop} {v1 : Int32} {v2 : Int32}  (K : XS mX10_readLinkOf 0 [(0, .ref 49), (1, .int v1), (2, .int v2)] [] I L (fun r I' L' => XS mX10_readsLink 82 [(0, .ref 49), (1, .int v1), (2, .int v2)] (r.toList ++ [.ref 49]) I' L' Q)) : XS mX10_readsLink 76 [(0, .ref 49), (1, .int v1), (2, .int v2)] [.ref 49] I L Q := by
  refine x_aload_n 0 dX10_readsLink_76 rfl rfl ?_
  refine x_iload_n 1 dX10_readsLink_77 rfl rfl ?_
  refine x_iload_n 2 dX10_readsLink_78 rfl rfl ?_
  exact xs_callV mX10_readLinkOf [.int v1, .int v2] [.ref 49] 49 10 2 _ rfl dX10_readsLink_79 ml_X10_183 qX10_readLinkOf rfl ⟨Nat.le_of_ble_eq_true rfl, Nat.le_of_ble_eq_true rfl⟩ ⟨rfl, rfl⟩ (Nat.le_of_ble_eq_true rfl) sh_49 (by decide) rfl (Nat.le_of_ble_eq_true rfl) (K)
theorem bX10_readsLink_82 {I : Nat → Nat → Int32} {L : Nat → Int64} {Q : Option Value → (Nat → Nat → Int32) → (Nat → Int64) → Prop} {v1 : Int32} {v2 : Int32} {s1 : Int32}  (K1 : (¬ s1 = (-1 : Int32)) → XS mX10_readsLink 95 [(0, .ref 49), (1, .int v1), (2, .int v2)] [.ref 49] I L Q) (K2 : (s1 = (-1 : Int32)) → XS mX10_readsLink 86 [(0, .ref 49), (1, .int v1), (2, .int v2)] [.ref 49] I L Q) : XS mX10_readsLink 82 [(0, .ref 49), (1, .int v1), (2, .int v2)] [.int s1, .ref 49] I L Q := by
  refine x_iconst (v := (-1 : Int32)) dX10_readsLink_82 (by decide) ?_
  exact x_icmp_ne 95 dX10_readsLink_83 (by decide) (fun h => K1 h) (fun h => K2 h)
theorem bX10_readsLink_86 {I : Nat → Nat → Int32} {L : Nat → Int64} {Q : Option Value → (Nat → Nat → Int32) → (Nat → Int64) → Prop} {v1 : Int32} {v2 : Int32}  (K1 : ((14 : Int32) ≤ (I 3165 0)) → XS mX10_readsLink 99 [(0, .ref 49), (1, .int v1), (2, .int v2)] [.ref 49] I L Q) (K2 : (¬ (14 : Int32) ≤ (I 3165 0)) → XS mX10_readsLink 95 [(0, .ref 49), (1, .int v1), (2, .int v2)] [.ref 49] I L Q) : XS mX10_readsLink 86 [(0, .ref 49), (1, .int v1), (2, .int v2)] [.ref 49] I L Q := by
  refine x_aload_n 0 dX10_readsLink_86 rfl rfl ?_
  refine xs_geti 3165 dX10_readsLink_87 fl_X10_162 sh_49 rfl rfl ?_
  refine x_bipush (v := (14 : Int32)) dX10_readsLink_90 (by decide) ?_
  exact x_icmp_ge 99 dX10_readsLink_92 (by decide) (fun h => K1 h) (fun h => K2 h)
theorem bX10_readsLink_95 {I : Nat → Nat → Int32} {L : Nat → Int64} {Q : Option Value → (Nat → Nat → Int32) → (Nat → Int64) → Prop} {v1 : Int32} {v2 : Int32}  (K : XS mX10_readsLink 100 [(0, .ref 49), (1, .int v1), (2, .int v2)] [.int (1 : Int32), .ref 49] I L Q) : XS mX10_readsLink 95 [(0, .ref 49), (1, .int v1), (2, .int v2)] [.ref 49] I L Q := by
  refine x_iconst (v := (1 : Int32)) dX10_readsLink_95 (by decide) ?_
  exact x_goto 100 dX10_readsLink_96 (by decide) (K)
theorem bX10_readsLink_99 {I : Nat → Nat → Int32} {L : Nat → Int64} {Q : Option Value → (Nat → Nat → Int32) → (Nat → Int64) → Prop} {v1 : Int32} {v2 : Int32}  (K : XS mX10_readsLink 100 [(0, .ref 49), (1, .int v1), (2, .int v2)] [.int (0 : Int32), .ref 49] I L Q) : XS mX10_readsLink 99 [(0, .ref 49), (1, .int v1), (2, .int v2)] [.ref 49] I L Q := by
  refine x_iconst (v := (0 : Int32)) dX10_readsLink_99 (by decide) ?_
  exact K
theorem bX10_readsLink_100 {I : Nat → Nat → Int32} {L : Nat → Int64} {Q : Option Value → (Nat → Nat → Int32) → (Nat → Int64) → Prop} {v1 : Int32} {v2 : Int32} {s1 : Int32}  (K : XS mX10_takes 0 [(0, .ref 49), (1, .int s1)] [] I L (fun r I' L' => XS mX10_readsLink 103 [(0, .ref 49), (1, .int v1), (2, .int v2)] (r.toList ++ []) I' L' Q)) : XS mX10_readsLink 100 [(0, .ref 49), (1, .int v1), (2, .int v2)] [.int s1, .ref 49] I L Q := by
  exact xs_callV mX10_takes [.int s1] [] 49 10 1 _ rfl dX10_readsLink_100 ml_X10_158 qX10_takes rfl ⟨Nat.le_of_ble_eq_true rfl, Nat.le_of_ble_eq_true rfl⟩ ⟨rfl, rfl⟩ (Nat.le_of_ble_eq_true rfl) sh_49 (by decide) rfl (Nat.le_of_ble_eq_true rfl) (K)
theorem bX10_readsLink_103 {I : Nat → Nat → Int32} {L : Nat → Int64} {Q : Option Value → (Nat → Nat → Int32) → (Nat → Int64) → Prop} {v1 : Int32} {v2 : Int32}  (K : XS mX10_figure 0 [(0, .ref 49), (1, .int (1 : Int32)), (2, .int (9 : Int32))] [] I L (fun r I' L' => XS mX10_readsLink 110 [(0, .ref 49), (1, .int v1), (2, .int v2)] (r.toList ++ []) I' L' Q)) : XS mX10_readsLink 103 [(0, .ref 49), (1, .int v1), (2, .int v2)] [] I L Q := by
  refine x_aload_n 0 dX10_readsLink_103 rfl rfl ?_
  refine x_iconst (v := (1 : Int32)) dX10_readsLink_104 (by decide) ?_
  refine x_bipush (v := (9 : Int32)) dX10_readsLink_105 (by decide) ?_
  exact xs_callV mX10_figure [.int (1 : Int32), .int (9 : Int32)] [] 49 10 2 _ rfl dX10_readsLink_107 ml_X10_165 qX10_figure rfl ⟨Nat.le_of_ble_eq_true rfl, Nat.le_of_ble_eq_true rfl⟩ ⟨rfl, rfl⟩ (Nat.le_of_ble_eq_true rfl) sh_49 (by decide) rfl (Nat.le_of_ble_eq_true rfl) (K)
theorem bX10_readsLink_110 {I : Nat → Nat → Int32} {L : Nat → Int64} {Q : Option Value → (Nat → Nat → Int32) → (Nat → Int64) → Prop} {v1 : Int32} {v2 : Int32} {s0 : Int32}  (K : XS mX10_figure 0 [(0, .ref 49), (1, .int (1 : Int32)), (2, .int (9 : Int32))] [] I L (fun r I' L' => XS mX10_readsLink 119 [(0, .ref 49), (1, .int v1), (2, .int v2), (4, .int s0)] (r.toList ++ []) I' L' Q)) : XS mX10_readsLink 110 [(0, .ref 49), (1, .int v1), (2, .int v2)] [.int s0] I L Q := by
  refine x_istore [(0, .ref 49), (1, .int v1), (2, .int v2), (4, .int s0)] dX10_readsLink_110 (Nat.le_of_ble_eq_true rfl) rfl ?_
  refine x_aload_n 0 dX10_readsLink_112 rfl rfl ?_
  refine x_iconst (v := (1 : Int32)) dX10_readsLink_113 (by decide) ?_
  refine x_bipush (v := (9 : Int32)) dX10_readsLink_114 (by decide) ?_
  exact xs_callV mX10_figure [.int (1 : Int32), .int (9 : Int32)] [] 49 10 2 _ rfl dX10_readsLink_116 ml_X10_165 qX10_figure rfl ⟨Nat.le_of_ble_eq_true rfl, Nat.le_of_ble_eq_true rfl⟩ ⟨rfl, rfl⟩ (Nat.le_of_ble_eq_true rfl) sh_49 (by decide) rfl (Nat.le_of_ble_eq_true rfl) (K)
theorem bX10_readsLink_119 {I : Nat → Nat → Int32} {L : Nat → Int64} {Q : Option Value → (Nat → Nat → Int32) → (Nat → Int64) → Prop} {v1 : Int32} {v2 : Int32} {v4 : Int32} {s0 : Int32}  (K1 : ((I 3162 0) = 0) → XS mX10_readsLink 129 [(0, .ref 49), (1, .int v1), (2, .int v2), (4, .int v4), (5, .int s0)] [] I L Q) (K2 : (¬ (I 3162 0) = 0) → XS mX10_readsLink 128 [] [] I L Q) : XS mX10_readsLink 119 [(0, .ref 49), (1, .int v1), (2, .int v2), (4, .int v4)] [.int s0] I L Q := by
  refine x_istore [(0, .ref 49), (1, .int v1), (2, .int v2), (4, .int v4), (5, .int s0)] dX10_readsLink_119 (Nat.le_of_ble_eq_true rfl) rfl ?_
  refine x_aload_n 0 dX10_readsLink_121 rfl rfl ?_
  refine xs_geti 3162 dX10_readsLink_122 fl_X10_150 sh_49 rfl rfl ?_
  exact x_if_eq 129 dX10_readsLink_125 (by decide) (fun h => K1 h) (fun h => x_sub [] rfl (K2 h))
theorem bX10_readsLink_128 {I : Nat → Nat → Int32} {L : Nat → Int64} {Q : Option Value → (Nat → Nat → Int32) → (Nat → Int64) → Prop}   (K : Q none I L) : XS mX10_readsLink 128 [] [] I L Q := by
  exact xs_end dX10_readsLink_128 rfl K
theorem bX10_readsLink_129 {I : Nat → Nat → Int32} {L : Nat → Int64} {Q : Option Value → (Nat → Nat → Int32) → (Nat → Int64) → Prop} {v1 : Int32} {v2 : Int32} {v4 : Int32} {v5 : Int32}  (K : XS mX10_readLinkOf 0 [(0, .ref 49), (1, .int v1), (2, .int v2)] [] I L (fun r I' L' => XS mX10_readsLink 135 [(0, .ref 49), (1, .int v1), (2, .int v2), (4, .int v4), (5, .int v5)] (r.toList ++ []) I' L' Q)) : XS mX10_readsLink 129 [(0, .ref 49), (1, .int v1), (2, .int v2), (4, .int v4), (5, .int v5)] [] I L Q := by
  refine x_aload_n 0 dX10_readsLink_129 rfl rfl ?_
  refine x_iload_n 1 dX10_readsLink_130 rfl rfl ?_
  refine x_iload_n 2 dX10_readsLink_131 rfl rfl ?_
  exact xs_callV mX10_readLinkOf [.int v1, .int v2] [] 49 10 2 _ rfl dX10_readsLink_132 ml_X10_183 qX10_readLinkOf rfl ⟨Nat.le_of_ble_eq_true rfl, Nat.le_of_ble_eq_true rfl⟩ ⟨rfl, rfl⟩ (Nat.le_of_ble_eq_true rfl) sh_49 (by decide) rfl (Nat.le_of_ble_eq_true rfl) (K)
theorem bX10_readsLink_135 {I : Nat → Nat → Int32} {L : Nat → Int64} {Q : Option Value → (Nat → Nat → Int32) → (Nat → Int64) → Prop} {v1 : Int32} {v2 : Int32} {v4 : Int32} {v5 : Int32} {s0 : Int32}  (K1 : (¬ s0 = (-1 : Int32)) → XS mX10_readsLink 287 [(0, .ref 49), (4, .int v4), (5, .int v5), (6, .int s0)] [] I L Q) (K2 : (s0 = (-1 : Int32)) → XS mX10_readsLink 143 [(0, .ref 49), (1, .int v1), (2, .int v2), (4, .int v4), (5, .int v5)] [] I L Q) : XS mX10_readsLink 135 [(0, .ref 49), (1, .int v1), (2, .int v2), (4, .int v4), (5, .int v5)] [.int s0] I L Q := by
  refine x_istore [(0, .ref 49), (1, .int v1), (2, .int v2), (4, .int v4), (5, .int v5), (6, .int s0)] dX10_readsLink_135 (Nat.le_of_ble_eq_true rfl) rfl ?_
  refine x_iload 5 dX10_readsLink_137 rfl ?_
  refine x_iconst (v := (-1 : Int32)) dX10_readsLink_139 (by decide) ?_
  exact x_icmp_ne 287 dX10_readsLink_140 (by decide) (fun h => x_sub [0, 3, 4, 5] rfl (K1 h)) (fun h => x_sub [0, 1, 2, 3, 4] rfl (K2 h))
theorem bX10_readsLink_143 {I : Nat → Nat → Int32} {L : Nat → Int64} {Q : Option Value → (Nat → Nat → Int32) → (Nat → Int64) → Prop} {v1 : Int32} {v2 : Int32} {v4 : Int32} {v5 : Int32}  (K1 : (v2 ≤ v1) → XS mX10_readsLink 164 [(0, .ref 49), (1, .int v1), (2, .int v2), (4, .int v4), (5, .int v5), (6, .int (I 3165 0))] [.int (I 3165 0), .ref 65] I L Q) (K2 : (¬ v2 ≤ v1) → XS mX10_readsLink 160 [(0, .ref 49), (1, .int v1), (2, .int v2), (4, .int v4), (5, .int v5), (6, .int (I 3165 0))] [.int (I 3165 0), .ref 65] I L Q) : XS mX10_readsLink 143 [(0, .ref 49), (1, .int v1), (2, .int v2), (4, .int v4), (5, .int v5)] [] I L Q := by
  refine x_aload_n 0 dX10_readsLink_143 rfl rfl ?_
  refine xs_geti 3165 dX10_readsLink_144 fl_X10_162 sh_49 rfl rfl ?_
  refine x_istore [(0, .ref 49), (1, .int v1), (2, .int v2), (4, .int v4), (5, .int v5), (6, .int (I 3165 0))] dX10_readsLink_147 (Nat.le_of_ble_eq_true rfl) rfl ?_
  refine x_aload_n 0 dX10_readsLink_149 rfl rfl ?_
  refine xs_getr dX10_readsLink_150 fl_X10_59 sh_49 rfl rf_3166 ?_
  refine x_iload 5 dX10_readsLink_153 rfl ?_
  refine x_iload_n 1 dX10_readsLink_155 rfl rfl ?_
  refine x_iload_n 2 dX10_readsLink_156 rfl rfl ?_
  exact x_icmp_ge 164 dX10_readsLink_157 (by decide) (fun h => K1 h) (fun h => K2 h)
theorem bX10_readsLink_160 {I : Nat → Nat → Int32} {L : Nat → Int64} {Q : Option Value → (Nat → Nat → Int32) → (Nat → Int64) → Prop} {v1 : Int32} {v2 : Int32} {v4 : Int32} {v5 : Int32} {v6 : Int32} {s1 : Int32}  (K : XS mX10_readsLink 165 [(0, .ref 49), (1, .int v1), (2, .int v2), (4, .int v4), (5, .int v5), (6, .int v6)] [.int v1, .int s1, .ref 65] I L Q) : XS mX10_readsLink 160 [(0, .ref 49), (1, .int v1), (2, .int v2), (4, .int v4), (5, .int v5), (6, .int v6)] [.int s1, .ref 65] I L Q := by
  refine x_iload_n 1 dX10_readsLink_160 rfl rfl ?_
  exact x_goto 165 dX10_readsLink_161 (by decide) (K)
theorem bX10_readsLink_164 {I : Nat → Nat → Int32} {L : Nat → Int64} {Q : Option Value → (Nat → Nat → Int32) → (Nat → Int64) → Prop} {v1 : Int32} {v2 : Int32} {v4 : Int32} {v5 : Int32} {v6 : Int32} {s1 : Int32}  (K : XS mX10_readsLink 165 [(0, .ref 49), (1, .int v1), (2, .int v2), (4, .int v4), (5, .int v5), (6, .int v6)] [.int v2, .int s1, .ref 65] I L Q) : XS mX10_readsLink 164 [(0, .ref 49), (1, .int v1), (2, .int v2), (4, .int v4), (5, .int v5), (6, .int v6)] [.int s1, .ref 65] I L Q := by
  refine x_iload_n 2 dX10_readsLink_164 rfl rfl ?_
  exact K
theorem bX10_readsLink_165 {I : Nat → Nat → Int32} {L : Nat → Int64} {Q : Option Value → (Nat → Nat → Int32) → (Nat → Int64) → Prop} {v1 : Int32} {v2 : Int32} {v4 : Int32} {v5 : Int32} {v6 : Int32} {s1 : Int32} {s2 : Int32} (hb1 : vp_in s1 14) (K1 : (v2 ≤ v1) → XS mX10_readsLink 181 [(0, .ref 49), (1, .int v1), (4, .int v4), (5, .int v5), (6, .int v6)] [.int v6, .ref 66] (x_up I 4160 (s1.toNatClampNeg) s2) L Q) (K2 : (¬ v2 ≤ v1) → XS mX10_readsLink 177 [(0, .ref 49), (2, .int v2), (4, .int v4), (5, .int v5), (6, .int v6)] [.int v6, .ref 66] (x_up I 4160 (s1.toNatClampNeg) s2) L Q) : XS mX10_readsLink 165 [(0, .ref 49), (1, .int v1), (2, .int v2), (4, .int v4), (5, .int v5), (6, .int v6)] [.int s2, .int s1, .ref 65] I L Q := by
  refine xs_iast 4160 (s1.toNatClampNeg) dX10_readsLink_165 sh_65 rfl rfl hb1 ?_
  refine x_aload_n 0 dX10_readsLink_166 rfl rfl ?_
  refine xs_getr dX10_readsLink_167 fl_X10_62 sh_49 rfl rf_3167 ?_
  refine x_iload 5 dX10_readsLink_170 rfl ?_
  refine x_iload_n 1 dX10_readsLink_172 rfl rfl ?_
  refine x_iload_n 2 dX10_readsLink_173 rfl rfl ?_
  exact x_icmp_ge 181 dX10_readsLink_174 (by decide) (fun h => x_sub [0, 1, 3, 4, 5] rfl (K1 h)) (fun h => x_sub [0, 2, 3, 4, 5] rfl (K2 h))
theorem bX10_readsLink_177 {I : Nat → Nat → Int32} {L : Nat → Int64} {Q : Option Value → (Nat → Nat → Int32) → (Nat → Int64) → Prop} {v2 : Int32} {v4 : Int32} {v5 : Int32} {v6 : Int32} {s1 : Int32}  (K : XS mX10_readsLink 182 [(0, .ref 49), (4, .int v4), (5, .int v5), (6, .int v6)] [.int v2, .int s1, .ref 66] I L Q) : XS mX10_readsLink 177 [(0, .ref 49), (2, .int v2), (4, .int v4), (5, .int v5), (6, .int v6)] [.int s1, .ref 66] I L Q := by
  refine x_iload_n 1 dX10_readsLink_177 rfl rfl ?_
  exact x_goto 182 dX10_readsLink_178 (by decide) (x_sub [0, 2, 3, 4] rfl (K))
theorem bX10_readsLink_181 {I : Nat → Nat → Int32} {L : Nat → Int64} {Q : Option Value → (Nat → Nat → Int32) → (Nat → Int64) → Prop} {v1 : Int32} {v4 : Int32} {v5 : Int32} {v6 : Int32} {s1 : Int32}  (K : XS mX10_readsLink 182 [(0, .ref 49), (4, .int v4), (5, .int v5), (6, .int v6)] [.int v1, .int s1, .ref 66] I L Q) : XS mX10_readsLink 181 [(0, .ref 49), (1, .int v1), (4, .int v4), (5, .int v5), (6, .int v6)] [.int s1, .ref 66] I L Q := by
  refine x_iload_n 1 dX10_readsLink_181 rfl rfl ?_
  exact x_sub [0, 2, 3, 4] rfl (K)
theorem bX10_readsLink_182 {I : Nat → Nat → Int32} {L : Nat → Int64} {Q : Option Value → (Nat → Nat → Int32) → (Nat → Int64) → Prop} {v4 : Int32} {v5 : Int32} {v6 : Int32} {s1 : Int32} {s2 : Int32} (hb1 : vp_in s1 14) (K1 : (((x_up (x_up I 4224 (s1.toNatClampNeg) s2) 3165 0 (((x_up I 4224 (s1.toNatClampNeg) s2) 3165 0) + (1 : Int32))) 3163 0) = 0) → XS mX10_readsLink 287 [(0, .ref 49), (4, .int v4), (5, .int v5), (6, .int v6)] [] (x_up (x_up I 4224 (s1.toNatClampNeg) s2) 3165 0 (((x_up I 4224 (s1.toNatClampNeg) s2) 3165 0) + (1 : Int32))) L Q) (K2 : (¬ ((x_up (x_up I 4224 (s1.toNatClampNeg) s2) 3165 0 (((x_up I 4224 (s1.toNatClampNeg) s2) 3165 0) + (1 : Int32))) 3163 0) = 0) → XS mX10_readsLink 200 [(0, .ref 49), (4, .int v4), (5, .int v5), (6, .int v6)] [] (x_up (x_up I 4224 (s1.toNatClampNeg) s2) 3165 0 (((x_up I 4224 (s1.toNatClampNeg) s2) 3165 0) + (1 : Int32))) L Q) : XS mX10_readsLink 182 [(0, .ref 49), (4, .int v4), (5, .int v5), (6, .int v6)] [.int s2, .int s1, .ref 66] I L Q := by
  refine xs_iast 4224 (s1.toNatClampNeg) dX10_readsLink_182 sh_66 rfl rfl hb1 ?_
  refine x_aload_n 0 dX10_readsLink_183 rfl rfl ?_
  refine x_dup dX10_readsLink_184 rfl ?_
  refine xs_geti 3165 dX10_readsLink_185 fl_X10_162 sh_49 rfl rfl ?_
  refine x_iconst (v := (1 : Int32)) dX10_readsLink_188 (by decide) ?_
  refine x_iadd dX10_readsLink_189 ?_
  refine xs_puti 3165 dX10_readsLink_190 fl_X10_162 sh_49 rfl rfl rfl ?_
  refine x_aload_n 0 dX10_readsLink_193 rfl rfl ?_
  refine xs_geti 3163 dX10_readsLink_194 fl_X10_171 sh_49 rfl rfl ?_
  exact x_if_eq 287 dX10_readsLink_197 (by decide) (fun h => K1 h) (fun h => K2 h)
theorem bX10_readsLink_200 {I : Nat → Nat → Int32} {L : Nat → Int64} {Q : Option Value → (Nat → Nat → Int32) → (Nat → Int64) → Prop} {v4 : Int32} {v5 : Int32} {v6 : Int32} (hb1 : vp_in v6 14) (hb2 : vp_in v6 14) (hb3 : vp_in v6 14) (hb4 : vp_in v6 14) (K : XS mX10_readsLink 255 [(0, .ref 49), (4, .int v4), (5, .int v5), (6, .int v6), (7, .int (0 : Int32))] [] (x_up (x_up (x_up (x_up I 3200 (v6.toNatClampNeg) (I 4160 (v6.toNatClampNeg))) 3264 (v6.toNatClampNeg) ((x_up I 3200 (v6.toNatClampNeg) (I 4160 (v6.toNatClampNeg))) 4224 (v6.toNatClampNeg))) 3137 0 (((x_up (x_up I 3200 (v6.toNatClampNeg) (I 4160 (v6.toNatClampNeg))) 3264 (v6.toNatClampNeg) ((x_up I 3200 (v6.toNatClampNeg) (I 4160 (v6.toNatClampNeg))) 4224 (v6.toNatClampNeg))) 3137 0) + (1 : Int32))) 3392 28 (((x_up (x_up (x_up I 3200 (v6.toNatClampNeg) (I 4160 (v6.toNatClampNeg))) 3264 (v6.toNatClampNeg) ((x_up I 3200 (v6.toNatClampNeg) (I 4160 (v6.toNatClampNeg))) 4224 (v6.toNatClampNeg))) 3137 0 (((x_up (x_up I 3200 (v6.toNatClampNeg) (I 4160 (v6.toNatClampNeg))) 3264 (v6.toNatClampNeg) ((x_up I 3200 (v6.toNatClampNeg) (I 4160 (v6.toNatClampNeg))) 4224 (v6.toNatClampNeg))) 3137 0) + (1 : Int32))) 3392 28) ||| ((1 : Int32) <<< (v6 &&& 31)))) L Q) : XS mX10_readsLink 200 [(0, .ref 49), (4, .int v4), (5, .int v5), (6, .int v6)] [] I L Q := by
  refine x_aload_n 0 dX10_readsLink_200 rfl rfl ?_
  refine xs_getr dX10_readsLink_201 fl_X10_13 sh_49 rfl rf_3138 ?_
  refine x_iload 3 dX10_readsLink_204 rfl ?_
  refine x_aload_n 0 dX10_readsLink_206 rfl rfl ?_
  refine xs_getr dX10_readsLink_207 fl_X10_59 sh_49 rfl rf_3166 ?_
  refine x_iload 3 dX10_readsLink_210 rfl ?_
  refine xs_iald 4160 (v6.toNatClampNeg) dX10_readsLink_212 sh_65 rfl rfl hb1 ?_
  refine xs_iast 3200 (v6.toNatClampNeg) dX10_readsLink_213 sh_50 rfl rfl hb2 ?_
  refine x_aload_n 0 dX10_readsLink_214 rfl rfl ?_
  refine xs_getr dX10_readsLink_215 fl_X10_17 sh_49 rfl rf_3139 ?_
  refine x_iload 3 dX10_readsLink_218 rfl ?_
  refine x_aload_n 0 dX10_readsLink_220 rfl rfl ?_
  refine xs_getr dX10_readsLink_221 fl_X10_62 sh_49 rfl rf_3167 ?_
  refine x_iload 3 dX10_readsLink_224 rfl ?_
  refine xs_iald 4224 (v6.toNatClampNeg) dX10_readsLink_226 sh_66 rfl rfl hb3 ?_
  refine xs_iast 3264 (v6.toNatClampNeg) dX10_readsLink_227 sh_51 rfl rfl hb4 ?_
  refine x_aload_n 0 dX10_readsLink_228 rfl rfl ?_
  refine x_dup dX10_readsLink_229 rfl ?_
  refine xs_geti 3137 dX10_readsLink_230 fl_X10_90 sh_49 rfl rfl ?_
  refine x_iconst (v := (1 : Int32)) dX10_readsLink_233 (by decide) ?_
  refine x_iadd dX10_readsLink_234 ?_
  refine xs_puti 3137 dX10_readsLink_235 fl_X10_90 sh_49 rfl rfl rfl ?_
  refine x_aload_n 0 dX10_readsLink_238 rfl rfl ?_
  refine xs_getr dX10_readsLink_239 fl_X10_23 sh_49 rfl rf_3141 ?_
  refine x_bipush (v := (28 : Int32)) dX10_readsLink_242 (by decide) ?_
  refine x_dup2 dX10_readsLink_244 rfl rfl ?_
  refine xs_iald 3392 (28) dX10_readsLink_245 sh_53 rfl (by decide) (x_vpin (by decide)) ?_
  refine x_iconst (v := (1 : Int32)) dX10_readsLink_246 (by decide) ?_
  refine x_iload 3 dX10_readsLink_247 rfl ?_
  refine x_ishl dX10_readsLink_249 ?_
  refine x_ior dX10_readsLink_250 ?_
  refine xs_iast 3392 (28) dX10_readsLink_251 sh_53 rfl (by decide) (x_vpin (by decide)) ?_
  refine x_iconst (v := (0 : Int32)) dX10_readsLink_252 (by decide) ?_
  refine x_istore [(0, .ref 49), (4, .int v4), (5, .int v5), (6, .int v6), (7, .int (0 : Int32))] dX10_readsLink_253 (Nat.le_of_ble_eq_true rfl) rfl ?_
  exact K
theorem bX10_readsLink_255 {I : Nat → Nat → Int32} {L : Nat → Int64} {Q : Option Value → (Nat → Nat → Int32) → (Nat → Int64) → Prop} {v4 : Int32} {v5 : Int32} {v6 : Int32} {v7 : Int32}  (K1 : ((I 3136 0) ≤ v7) → XS mX10_readsLink 287 [(0, .ref 49), (4, .int v4), (5, .int v5), (6, .int v6)] [] I L Q) (K2 : (¬ (I 3136 0) ≤ v7) → XS mX10_readsLink 264 [(0, .ref 49), (4, .int v4), (5, .int v5), (6, .int v6), (7, .int v7)] [] I L Q) : XS mX10_readsLink 255 [(0, .ref 49), (4, .int v4), (5, .int v5), (6, .int v6), (7, .int v7)] [] I L Q := by
  refine x_iload 4 dX10_readsLink_255 rfl ?_
  refine x_aload_n 0 dX10_readsLink_257 rfl rfl ?_
  refine xs_geti 3136 dX10_readsLink_258 fl_X10_7 sh_49 rfl rfl ?_
  exact x_icmp_ge 287 dX10_readsLink_261 (by decide) (fun h => x_sub [0, 1, 2, 3] rfl (K1 h)) (fun h => K2 h)
theorem bX10_readsLink_264 {I : Nat → Nat → Int32} {L : Nat → Int64} {Q : Option Value → (Nat → Nat → Int32) → (Nat → Int64) → Prop} {v4 : Int32} {v5 : Int32} {v6 : Int32} {v7 : Int32} (hb1 : vp_in ((29 : Int32) + v7) 37) (hb2 : vp_in ((29 : Int32) + v7) 37) (K : XS mX10_readsLink 255 [(0, .ref 49), (4, .int v4), (5, .int v5), (6, .int v6), (7, .int (v7 + (1 : Int32)))] [] (x_up I 3392 (((29 : Int32) + v7).toNatClampNeg) ((I 3392 (((29 : Int32) + v7).toNatClampNeg)) ||| ((1 : Int32) <<< (v6 &&& 31)))) L Q) : XS mX10_readsLink 264 [(0, .ref 49), (4, .int v4), (5, .int v5), (6, .int v6), (7, .int v7)] [] I L Q := by
  refine x_aload_n 0 dX10_readsLink_264 rfl rfl ?_
  refine xs_getr dX10_readsLink_265 fl_X10_23 sh_49 rfl rf_3141 ?_
  refine x_bipush (v := (29 : Int32)) dX10_readsLink_268 (by decide) ?_
  refine x_iload 4 dX10_readsLink_270 rfl ?_
  refine x_iadd dX10_readsLink_272 ?_
  refine x_dup2 dX10_readsLink_273 rfl rfl ?_
  refine xs_iald 3392 (((29 : Int32) + v7).toNatClampNeg) dX10_readsLink_274 sh_53 rfl rfl hb1 ?_
  refine x_iconst (v := (1 : Int32)) dX10_readsLink_275 (by decide) ?_
  refine x_iload 3 dX10_readsLink_276 rfl ?_
  refine x_ishl dX10_readsLink_278 ?_
  refine x_ior dX10_readsLink_279 ?_
  refine xs_iast 3392 (((29 : Int32) + v7).toNatClampNeg) dX10_readsLink_280 sh_53 rfl rfl hb2 ?_
  refine x_iinc 4 (v7 + (1 : Int32)) [(0, .ref 49), (4, .int v4), (5, .int v5), (6, .int v6), (7, .int (v7 + (1 : Int32)))] dX10_readsLink_281 rfl rfl (Nat.le_of_ble_eq_true rfl) rfl ?_
  exact x_goto 255 dX10_readsLink_284 (by decide) (K)
theorem bX10_readsLink_287 {I : Nat → Nat → Int32} {L : Nat → Int64} {Q : Option Value → (Nat → Nat → Int32) → (Nat → Int64) → Prop} {v4 : Int32} {v5 : Int32} {v6 : Int32}  (K1 : ((I 3163 0) = 0) → XS mX10_readsLink 317 [] [] I L Q) (K2 : (¬ (I 3163 0) = 0) → XS mX10_readsLink 294 [(0, .ref 49), (4, .int v4), (5, .int v5), (6, .int v6)] [] I L Q) : XS mX10_readsLink 287 [(0, .ref 49), (4, .int v4), (5, .int v5), (6, .int v6)] [] I L Q := by
  refine x_aload_n 0 dX10_readsLink_287 rfl rfl ?_
  refine xs_geti 3163 dX10_readsLink_288 fl_X10_171 sh_49 rfl rfl ?_
  exact x_if_eq 317 dX10_readsLink_291 (by decide) (fun h => x_sub [] rfl (K1 h)) (fun h => K2 h)
theorem bX10_readsLink_294 {I : Nat → Nat → Int32} {L : Nat → Int64} {Q : Option Value → (Nat → Nat → Int32) → (Nat → Int64) → Prop} {v4 : Int32} {v5 : Int32} {v6 : Int32} (hb1 : vp_in ((0 : Int32) + v6) 37) (hb2 : vp_in ((14 : Int32) + v6) 37) (K : XS mX10_readsLink 317 [] [] (x_up (x_up I 3392 (((0 : Int32) + v6).toNatClampNeg) v4) 3392 (((14 : Int32) + v6).toNatClampNeg) v5) L Q) : XS mX10_readsLink 294 [(0, .ref 49), (4, .int v4), (5, .int v5), (6, .int v6)] [] I L Q := by
  refine x_aload_n 0 dX10_readsLink_294 rfl rfl ?_
  refine xs_getr dX10_readsLink_295 fl_X10_23 sh_49 rfl rf_3141 ?_
  refine x_iconst (v := (0 : Int32)) dX10_readsLink_298 (by decide) ?_
  refine x_iload 3 dX10_readsLink_299 rfl ?_
  refine x_iadd dX10_readsLink_301 ?_
  refine x_iload 1 dX10_readsLink_302 rfl ?_
  refine xs_iast 3392 (((0 : Int32) + v6).toNatClampNeg) dX10_readsLink_304 sh_53 rfl rfl hb1 ?_
  refine x_aload_n 0 dX10_readsLink_305 rfl rfl ?_
  refine xs_getr dX10_readsLink_306 fl_X10_23 sh_49 rfl rf_3141 ?_
  refine x_bipush (v := (14 : Int32)) dX10_readsLink_309 (by decide) ?_
  refine x_iload 3 dX10_readsLink_311 rfl ?_
  refine x_iadd dX10_readsLink_313 ?_
  refine x_iload 2 dX10_readsLink_314 rfl ?_
  refine xs_iast 3392 (((14 : Int32) + v6).toNatClampNeg) dX10_readsLink_316 sh_53 rfl rfl hb2 ?_
  exact x_sub [] rfl (K)
theorem bX10_readsLink_317 {I : Nat → Nat → Int32} {L : Nat → Int64} {Q : Option Value → (Nat → Nat → Int32) → (Nat → Int64) → Prop}   (K : Q none I L) : XS mX10_readsLink 317 [] [] I L Q := by
  exact xs_end dX10_readsLink_317 rfl K
theorem bX10_clause_0 {I : Nat → Nat → Int32} {L : Nat → Int64} {Q : Option Value → (Nat → Nat → Int32) → (Nat → Int64) → Prop}   (K : XS mX10_looks 0 [(0, .ref 49)] [] I L (fun r I' L' => XS mX10_clause 4 [(0, .ref 49)] (r.toList ++ []) I' L' Q)) : XS mX10_clause 0 [(0, .ref 49)] [] I L Q := by
  refine x_aload_n 0 dX10_clause_0 rfl rfl ?_
  exact xs_callV mX10_looks [] [] 49 10 0 _ rfl dX10_clause_1 ml_X10_154 qX10_looks rfl ⟨Nat.le_of_ble_eq_true rfl, Nat.le_of_ble_eq_true rfl⟩ ⟨rfl, rfl⟩ (Nat.le_of_ble_eq_true rfl) sh_49 (by decide) rfl (Nat.le_of_ble_eq_true rfl) (K)
theorem bX10_clause_4 {I : Nat → Nat → Int32} {L : Nat → Int64} {Q : Option Value → (Nat → Nat → Int32) → (Nat → Int64) → Prop} {s0 : Int32}  (K : XS mX10_isName 0 [(0, .ref 49), (1, .int (110 : Int32)), (2, .int (111 : Int32)), (3, .int (100 : Int32)), (4, .int (101 : Int32)), (5, .int (115 : Int32))] [] I L (fun r I' L' => XS mX10_clause 19 [(0, .ref 49)] (r.toList ++ []) I' L' Q)) : XS mX10_clause 4 [(0, .ref 49)] [.int s0] I L Q := by
  refine x_pop dX10_clause_4 rfl ?_
  refine x_aload_n 0 dX10_clause_5 rfl rfl ?_
  refine x_bipush (v := (110 : Int32)) dX10_clause_6 (by decide) ?_
  refine x_bipush (v := (111 : Int32)) dX10_clause_8 (by decide) ?_
  refine x_bipush (v := (100 : Int32)) dX10_clause_10 (by decide) ?_
  refine x_bipush (v := (101 : Int32)) dX10_clause_12 (by decide) ?_
  refine x_bipush (v := (115 : Int32)) dX10_clause_14 (by decide) ?_
  exact xs_callV mX10_isName [.int (110 : Int32), .int (111 : Int32), .int (100 : Int32), .int (101 : Int32), .int (115 : Int32)] [] 49 10 5 _ rfl dX10_clause_16 ml_X10_186 qX10_isName rfl ⟨Nat.le_of_ble_eq_true rfl, Nat.le_of_ble_eq_true rfl⟩ ⟨rfl, rfl⟩ (Nat.le_of_ble_eq_true rfl) sh_49 (by decide) rfl (Nat.le_of_ble_eq_true rfl) (K)
theorem bX10_clause_19 {I : Nat → Nat → Int32} {L : Nat → Int64} {Q : Option Value → (Nat → Nat → Int32) → (Nat → Int64) → Prop} {s0 : Int32}  (K : XS mX10_isName 0 [(0, .ref 49), (1, .int (108 : Int32)), (2, .int (105 : Int32)), (3, .int (110 : Int32)), (4, .int (107 : Int32)), (5, .int (0 : Int32))] [] I L (fun r I' L' => XS mX10_clause 33 [(0, .ref 49), (1, .int s0)] (r.toList ++ []) I' L' Q)) : XS mX10_clause 19 [(0, .ref 49)] [.int s0] I L Q := by
  refine x_istore_n [(0, .ref 49), (1, .int s0)] dX10_clause_19 rfl (Nat.le_of_ble_eq_true rfl) rfl ?_
  refine x_aload_n 0 dX10_clause_20 rfl rfl ?_
  refine x_bipush (v := (108 : Int32)) dX10_clause_21 (by decide) ?_
  refine x_bipush (v := (105 : Int32)) dX10_clause_23 (by decide) ?_
  refine x_bipush (v := (110 : Int32)) dX10_clause_25 (by decide) ?_
  refine x_bipush (v := (107 : Int32)) dX10_clause_27 (by decide) ?_
  refine x_iconst (v := (0 : Int32)) dX10_clause_29 (by decide) ?_
  exact xs_callV mX10_isName [.int (108 : Int32), .int (105 : Int32), .int (110 : Int32), .int (107 : Int32), .int (0 : Int32)] [] 49 10 5 _ rfl dX10_clause_30 ml_X10_186 qX10_isName rfl ⟨Nat.le_of_ble_eq_true rfl, Nat.le_of_ble_eq_true rfl⟩ ⟨rfl, rfl⟩ (Nat.le_of_ble_eq_true rfl) sh_49 (by decide) rfl (Nat.le_of_ble_eq_true rfl) (K)
theorem bX10_clause_33 {I : Nat → Nat → Int32} {L : Nat → Int64} {Q : Option Value → (Nat → Nat → Int32) → (Nat → Int64) → Prop} {v1 : Int32} {s0 : Int32}  (K1 : (¬ v1 = 0) → XS mX10_clause 43 [(0, .ref 49), (1, .int v1), (2, .int s0)] [.ref 49] I L Q) (K2 : (v1 = 0) → XS mX10_clause 39 [(0, .ref 49), (1, .int v1), (2, .int s0)] [.ref 49] I L Q) : XS mX10_clause 33 [(0, .ref 49), (1, .int v1)] [.int s0] I L Q := by
  refine x_istore_n [(0, .ref 49), (1, .int v1), (2, .int s0)] dX10_clause_33 rfl (Nat.le_of_ble_eq_true rfl) rfl ?_
  refine x_aload_n 0 dX10_clause_34 rfl rfl ?_
  refine x_iload_n 1 dX10_clause_35 rfl rfl ?_
  exact x_if_ne 43 dX10_clause_36 (by decide) (fun h => K1 h) (fun h => K2 h)
theorem bX10_clause_39 {I : Nat → Nat → Int32} {L : Nat → Int64} {Q : Option Value → (Nat → Nat → Int32) → (Nat → Int64) → Prop} {v1 : Int32} {v2 : Int32}  (K1 : (v2 = 0) → XS mX10_clause 47 [(0, .ref 49), (1, .int v1), (2, .int v2)] [.ref 49] I L Q) (K2 : (¬ v2 = 0) → XS mX10_clause 43 [(0, .ref 49), (1, .int v1), (2, .int v2)] [.ref 49] I L Q) : XS mX10_clause 39 [(0, .ref 49), (1, .int v1), (2, .int v2)] [.ref 49] I L Q := by
  refine x_iload_n 2 dX10_clause_39 rfl rfl ?_
  exact x_if_eq 47 dX10_clause_40 (by decide) (fun h => K1 h) (fun h => K2 h)
theorem bX10_clause_43 {I : Nat → Nat → Int32} {L : Nat → Int64} {Q : Option Value → (Nat → Nat → Int32) → (Nat → Int64) → Prop} {v1 : Int32} {v2 : Int32}  (K : XS mX10_clause 48 [(0, .ref 49), (1, .int v1), (2, .int v2)] [.int (1 : Int32), .ref 49] I L Q) : XS mX10_clause 43 [(0, .ref 49), (1, .int v1), (2, .int v2)] [.ref 49] I L Q := by
  refine x_iconst (v := (1 : Int32)) dX10_clause_43 (by decide) ?_
  exact x_goto 48 dX10_clause_44 (by decide) (K)
theorem bX10_clause_47 {I : Nat → Nat → Int32} {L : Nat → Int64} {Q : Option Value → (Nat → Nat → Int32) → (Nat → Int64) → Prop} {v1 : Int32} {v2 : Int32}  (K : XS mX10_clause 48 [(0, .ref 49), (1, .int v1), (2, .int v2)] [.int (0 : Int32), .ref 49] I L Q) : XS mX10_clause 47 [(0, .ref 49), (1, .int v1), (2, .int v2)] [.ref 49] I L Q := by
  refine x_iconst (v := (0 : Int32)) dX10_clause_47 (by decide) ?_
  exact K
theorem bX10_clause_48 {I : Nat → Nat → Int32} {L : Nat → Int64} {Q : Option Value → (Nat → Nat → Int32) → (Nat → Int64) → Prop} {v1 : Int32} {v2 : Int32} {s1 : Int32}  (K : XS mX10_takes 0 [(0, .ref 49), (1, .int s1)] [] I L (fun r I' L' => XS mX10_clause 51 [(0, .ref 49), (1, .int v1), (2, .int v2)] (r.toList ++ []) I' L' Q)) : XS mX10_clause 48 [(0, .ref 49), (1, .int v1), (2, .int v2)] [.int s1, .ref 49] I L Q := by
  exact xs_callV mX10_takes [.int s1] [] 49 10 1 _ rfl dX10_clause_48 ml_X10_158 qX10_takes rfl ⟨Nat.le_of_ble_eq_true rfl, Nat.le_of_ble_eq_true rfl⟩ ⟨rfl, rfl⟩ (Nat.le_of_ble_eq_true rfl) sh_49 (by decide) rfl (Nat.le_of_ble_eq_true rfl) (K)
theorem bX10_clause_51 {I : Nat → Nat → Int32} {L : Nat → Int64} {Q : Option Value → (Nat → Nat → Int32) → (Nat → Int64) → Prop} {v1 : Int32} {v2 : Int32}  (K1 : (v1 = 0) → XS mX10_clause 69 [(0, .ref 49), (2, .int v2)] [] I L Q) (K2 : (¬ v1 = 0) → XS mX10_clause 55 [(0, .ref 49), (2, .int v2)] [] I L Q) : XS mX10_clause 51 [(0, .ref 49), (1, .int v1), (2, .int v2)] [] I L Q := by
  refine x_iload_n 1 dX10_clause_51 rfl rfl ?_
  exact x_if_eq 69 dX10_clause_52 (by decide) (fun h => x_sub [0, 2] rfl (K1 h)) (fun h => x_sub [0, 2] rfl (K2 h))
theorem bX10_clause_55 {I : Nat → Nat → Int32} {L : Nat → Int64} {Q : Option Value → (Nat → Nat → Int32) → (Nat → Int64) → Prop} {v2 : Int32}  (K1 : (¬ (I 3162 0) = 0) → XS mX10_clause 69 [(0, .ref 49), (2, .int v2)] [] I L Q) (K2 : ((I 3162 0) = 0) → XS mX10_clause 62 [(0, .ref 49)] [] I L Q) : XS mX10_clause 55 [(0, .ref 49), (2, .int v2)] [] I L Q := by
  refine x_aload_n 0 dX10_clause_55 rfl rfl ?_
  refine xs_geti 3162 dX10_clause_56 fl_X10_150 sh_49 rfl rfl ?_
  exact x_if_ne 69 dX10_clause_59 (by decide) (fun h => K1 h) (fun h => x_sub [0] rfl (K2 h))
theorem bX10_clause_62 {I : Nat → Nat → Int32} {L : Nat → Int64} {Q : Option Value → (Nat → Nat → Int32) → (Nat → Int64) → Prop}   (K : XS mX10_readsNodes 0 [(0, .ref 49)] [] I L (fun r I' L' => XS mX10_clause 66 [] (r.toList ++ []) I' L' Q)) : XS mX10_clause 62 [(0, .ref 49)] [] I L Q := by
  refine x_aload_n 0 dX10_clause_62 rfl rfl ?_
  refine x_sub [] rfl ?_
  exact xs_callV mX10_readsNodes [] [] 49 10 0 _ rfl dX10_clause_63 ml_X10_190 qX10_readsNodes rfl ⟨Nat.le_of_ble_eq_true rfl, Nat.le_of_ble_eq_true rfl⟩ ⟨rfl, rfl⟩ (Nat.le_of_ble_eq_true rfl) sh_49 (by decide) rfl (Nat.le_of_ble_eq_true rfl) (K)
theorem bX10_clause_66 {I : Nat → Nat → Int32} {L : Nat → Int64} {Q : Option Value → (Nat → Nat → Int32) → (Nat → Int64) → Prop}   (K : XS mX10_clause 84 [] [] I L Q) : XS mX10_clause 66 [] [] I L Q := by
  exact x_goto 84 dX10_clause_66 (by decide) (K)
theorem bX10_clause_69 {I : Nat → Nat → Int32} {L : Nat → Int64} {Q : Option Value → (Nat → Nat → Int32) → (Nat → Int64) → Prop} {v2 : Int32}  (K1 : (v2 = 0) → XS mX10_clause 84 [] [] I L Q) (K2 : (¬ v2 = 0) → XS mX10_clause 73 [(0, .ref 49)] [] I L Q) : XS mX10_clause 69 [(0, .ref 49), (2, .int v2)] [] I L Q := by
  refine x_iload_n 1 dX10_clause_69 rfl rfl ?_
  exact x_if_eq 84 dX10_clause_70 (by decide) (fun h => x_sub [] rfl (K1 h)) (fun h => x_sub [0] rfl (K2 h))
theorem bX10_clause_73 {I : Nat → Nat → Int32} {L : Nat → Int64} {Q : Option Value → (Nat → Nat → Int32) → (Nat → Int64) → Prop}   (K1 : (¬ (I 3162 0) = 0) → XS mX10_clause 84 [] [] I L Q) (K2 : ((I 3162 0) = 0) → XS mX10_clause 80 [(0, .ref 49)] [] I L Q) : XS mX10_clause 73 [(0, .ref 49)] [] I L Q := by
  refine x_aload_n 0 dX10_clause_73 rfl rfl ?_
  refine xs_geti 3162 dX10_clause_74 fl_X10_150 sh_49 rfl rfl ?_
  exact x_if_ne 84 dX10_clause_77 (by decide) (fun h => x_sub [] rfl (K1 h)) (fun h => K2 h)
theorem bX10_clause_80 {I : Nat → Nat → Int32} {L : Nat → Int64} {Q : Option Value → (Nat → Nat → Int32) → (Nat → Int64) → Prop}   (K : XS mX10_readsLink 0 [(0, .ref 49)] [] I L (fun r I' L' => XS mX10_clause 84 [] (r.toList ++ []) I' L' Q)) : XS mX10_clause 80 [(0, .ref 49)] [] I L Q := by
  refine x_aload_n 0 dX10_clause_80 rfl rfl ?_
  refine x_sub [] rfl ?_
  exact xs_callV mX10_readsLink [] [] 49 10 0 _ rfl dX10_clause_81 ml_X10_193 qX10_readsLink rfl ⟨Nat.le_of_ble_eq_true rfl, Nat.le_of_ble_eq_true rfl⟩ ⟨rfl, rfl⟩ (Nat.le_of_ble_eq_true rfl) sh_49 (by decide) rfl (Nat.le_of_ble_eq_true rfl) (K)
theorem bX10_clause_84 {I : Nat → Nat → Int32} {L : Nat → Int64} {Q : Option Value → (Nat → Nat → Int32) → (Nat → Int64) → Prop}   (K : Q none I L) : XS mX10_clause 84 [] [] I L Q := by
  exact xs_end dX10_clause_84 rfl K
theorem bX10_reads_0 {I : Nat → Nat → Int32} {L : Nat → Int64} {Q : Option Value → (Nat → Nat → Int32) → (Nat → Int64) → Prop} {v1 : Int32} (hz1 : v1 = 0 ∨ v1 = 1) (K : XS mX10_reads 33 [(0, .ref 49), (2, .int (0 : Int32))] [] (x_up (x_up (x_up (x_up (x_up I 3160 0 (0 : Int32)) 3162 0 (0 : Int32)) 3163 0 v1) 3164 0 ((x_up (x_up (x_up I 3160 0 (0 : Int32)) 3162 0 (0 : Int32)) 3163 0 v1) 3136 0)) 3165 0 ((x_up (x_up (x_up (x_up I 3160 0 (0 : Int32)) 3162 0 (0 : Int32)) 3163 0 v1) 3164 0 ((x_up (x_up (x_up I 3160 0 (0 : Int32)) 3162 0 (0 : Int32)) 3163 0 v1) 3136 0)) 3137 0)) L Q) : XS mX10_reads 0 [(0, .ref 49), (1, .int v1)] [] I L Q := by
  refine x_aload_n 0 dX10_reads_0 rfl rfl ?_
  refine x_iconst (v := (0 : Int32)) dX10_reads_1 (by decide) ?_
  refine xs_puti 3160 dX10_reads_2 fl_X10_137 sh_49 rfl rfl rfl ?_
  refine x_aload_n 0 dX10_reads_5 rfl rfl ?_
  refine x_iconst (v := (0 : Int32)) dX10_reads_6 (by decide) ?_
  refine xs_putz 3162 dX10_reads_7 fl_X10_150 sh_49 rfl (Or.inl rfl) rfl rfl ?_
  refine x_aload_n 0 dX10_reads_10 rfl rfl ?_
  refine x_iload_n 1 dX10_reads_11 rfl rfl ?_
  refine xs_putz 3163 dX10_reads_12 fl_X10_171 sh_49 rfl hz1 rfl rfl ?_
  refine x_aload_n 0 dX10_reads_15 rfl rfl ?_
  refine x_aload_n 0 dX10_reads_16 rfl rfl ?_
  refine xs_geti 3136 dX10_reads_17 fl_X10_7 sh_49 rfl rfl ?_
  refine xs_puti 3164 dX10_reads_20 fl_X10_168 sh_49 rfl rfl rfl ?_
  refine x_aload_n 0 dX10_reads_23 rfl rfl ?_
  refine x_aload_n 0 dX10_reads_24 rfl rfl ?_
  refine xs_geti 3137 dX10_reads_25 fl_X10_90 sh_49 rfl rfl ?_
  refine xs_puti 3165 dX10_reads_28 fl_X10_162 sh_49 rfl rfl rfl ?_
  refine x_iconst (v := (0 : Int32)) dX10_reads_31 (by decide) ?_
  refine x_istore_n [(0, .ref 49), (1, .int v1), (2, .int (0 : Int32))] dX10_reads_32 rfl (Nat.le_of_ble_eq_true rfl) rfl ?_
  exact x_sub [0, 2] rfl (K)
theorem bX10_reads_33 {I : Nat → Nat → Int32} {L : Nat → Int64} {Q : Option Value → (Nat → Nat → Int32) → (Nat → Int64) → Prop} {v2 : Int32}  (K1 : ((I 3137 0) ≤ v2) → XS mX10_reads 71 [(0, .ref 49)] [] I L Q) (K2 : (¬ (I 3137 0) ≤ v2) → XS mX10_reads 41 [(0, .ref 49), (2, .int v2)] [] I L Q) : XS mX10_reads 33 [(0, .ref 49), (2, .int v2)] [] I L Q := by
  refine x_iload_n 1 dX10_reads_33 rfl rfl ?_
  refine x_aload_n 0 dX10_reads_34 rfl rfl ?_
  refine xs_geti 3137 dX10_reads_35 fl_X10_90 sh_49 rfl rfl ?_
  exact x_icmp_ge 71 dX10_reads_38 (by decide) (fun h => x_sub [0] rfl (K1 h)) (fun h => K2 h)
theorem bX10_reads_41 {I : Nat → Nat → Int32} {L : Nat → Int64} {Q : Option Value → (Nat → Nat → Int32) → (Nat → Int64) → Prop} {v2 : Int32} (hb1 : vp_in v2 14) (hb2 : vp_in v2 14) (hb3 : vp_in v2 14) (hb4 : vp_in v2 14) (K : XS mX10_reads 33 [(0, .ref 49), (2, .int (v2 + (1 : Int32)))] [] (x_up (x_up I 4160 (v2.toNatClampNeg) (I 3200 (v2.toNatClampNeg))) 4224 (v2.toNatClampNeg) ((x_up I 4160 (v2.toNatClampNeg) (I 3200 (v2.toNatClampNeg))) 3264 (v2.toNatClampNeg))) L Q) : XS mX10_reads 41 [(0, .ref 49), (2, .int v2)] [] I L Q := by
  refine x_aload_n 0 dX10_reads_41 rfl rfl ?_
  refine xs_getr dX10_reads_42 fl_X10_59 sh_49 rfl rf_3166 ?_
  refine x_iload_n 1 dX10_reads_45 rfl rfl ?_
  refine x_aload_n 0 dX10_reads_46 rfl rfl ?_
  refine xs_getr dX10_reads_47 fl_X10_13 sh_49 rfl rf_3138 ?_
  refine x_iload_n 1 dX10_reads_50 rfl rfl ?_
  refine xs_iald 3200 (v2.toNatClampNeg) dX10_reads_51 sh_50 rfl rfl hb1 ?_
  refine xs_iast 4160 (v2.toNatClampNeg) dX10_reads_52 sh_65 rfl rfl hb2 ?_
  refine x_aload_n 0 dX10_reads_53 rfl rfl ?_
  refine xs_getr dX10_reads_54 fl_X10_62 sh_49 rfl rf_3167 ?_
  refine x_iload_n 1 dX10_reads_57 rfl rfl ?_
  refine x_aload_n 0 dX10_reads_58 rfl rfl ?_
  refine xs_getr dX10_reads_59 fl_X10_17 sh_49 rfl rf_3139 ?_
  refine x_iload_n 1 dX10_reads_62 rfl rfl ?_
  refine xs_iald 3264 (v2.toNatClampNeg) dX10_reads_63 sh_51 rfl rfl hb3 ?_
  refine xs_iast 4224 (v2.toNatClampNeg) dX10_reads_64 sh_66 rfl rfl hb4 ?_
  refine x_iinc 1 (v2 + (1 : Int32)) [(0, .ref 49), (2, .int (v2 + (1 : Int32)))] dX10_reads_65 rfl rfl (Nat.le_of_ble_eq_true rfl) rfl ?_
  exact x_goto 33 dX10_reads_68 (by decide) (K)
theorem bX10_reads_71 {I : Nat → Nat → Int32} {L : Nat → Int64} {Q : Option Value → (Nat → Nat → Int32) → (Nat → Int64) → Prop}   (K : XS mX10_reads 75 [(0, .ref 49), (2, .int (0 : Int32)), (3, .int (1 : Int32))] [] I L Q) : XS mX10_reads 71 [(0, .ref 49)] [] I L Q := by
  refine x_iconst (v := (0 : Int32)) dX10_reads_71 (by decide) ?_
  refine x_istore_n [(0, .ref 49), (2, .int (0 : Int32))] dX10_reads_72 rfl (Nat.le_of_ble_eq_true rfl) rfl ?_
  refine x_iconst (v := (1 : Int32)) dX10_reads_73 (by decide) ?_
  refine x_istore_n [(0, .ref 49), (2, .int (0 : Int32)), (3, .int (1 : Int32))] dX10_reads_74 rfl (Nat.le_of_ble_eq_true rfl) rfl ?_
  exact K
theorem bX10_reads_75 {I : Nat → Nat → Int32} {L : Nat → Int64} {Q : Option Value → (Nat → Nat → Int32) → (Nat → Int64) → Prop} {v2 : Int32} {v3 : Int32}  (K1 : (v3 = 0) → XS mX10_reads 142 [(2, .int v2)] [] I L Q) (K2 : (¬ v3 = 0) → XS mX10_reads 79 [(0, .ref 49), (2, .int v2)] [] I L Q) : XS mX10_reads 75 [(0, .ref 49), (2, .int v2), (3, .int v3)] [] I L Q := by
  refine x_iload_n 2 dX10_reads_75 rfl rfl ?_
  exact x_if_eq 142 dX10_reads_76 (by decide) (fun h => x_sub [1] rfl (K1 h)) (fun h => x_sub [0, 1] rfl (K2 h))
theorem bX10_reads_79 {I : Nat → Nat → Int32} {L : Nat → Int64} {Q : Option Value → (Nat → Nat → Int32) → (Nat → Int64) → Prop} {v2 : Int32}  (K1 : (¬ (I 3162 0) = 0) → XS mX10_reads 142 [(2, .int v2)] [] I L Q) (K2 : ((I 3162 0) = 0) → XS mX10_reads 86 [(0, .ref 49), (2, .int v2)] [] I L Q) : XS mX10_reads 79 [(0, .ref 49), (2, .int v2)] [] I L Q := by
  refine x_aload_n 0 dX10_reads_79 rfl rfl ?_
  refine xs_geti 3162 dX10_reads_80 fl_X10_150 sh_49 rfl rfl ?_
  exact x_if_ne 142 dX10_reads_83 (by decide) (fun h => x_sub [1] rfl (K1 h)) (fun h => K2 h)
theorem bX10_reads_86 {I : Nat → Nat → Int32} {L : Nat → Int64} {Q : Option Value → (Nat → Nat → Int32) → (Nat → Int64) → Prop} {v2 : Int32}  (K : XS mX10_clause 0 [(0, .ref 49)] [] I L (fun r I' L' => XS mX10_reads 90 [(0, .ref 49), (2, .int v2)] (r.toList ++ []) I' L' Q)) : XS mX10_reads 86 [(0, .ref 49), (2, .int v2)] [] I L Q := by
  refine x_aload_n 0 dX10_reads_86 rfl rfl ?_
  exact xs_callV mX10_clause [] [] 49 10 0 _ rfl dX10_reads_87 ml_X10_196 qX10_clause rfl ⟨Nat.le_of_ble_eq_true rfl, Nat.le_of_ble_eq_true rfl⟩ ⟨rfl, rfl⟩ (Nat.le_of_ble_eq_true rfl) sh_49 (by decide) rfl (Nat.le_of_ble_eq_true rfl) (K)
theorem bX10_reads_90 {I : Nat → Nat → Int32} {L : Nat → Int64} {Q : Option Value → (Nat → Nat → Int32) → (Nat → Int64) → Prop} {v2 : Int32}  (K1 : ((I 3162 0) = 0) → XS mX10_reads 104 [(0, .ref 49), (2, .int (v2 + (1 : Int32)))] [] I L Q) (K2 : (¬ (I 3162 0) = 0) → XS mX10_reads 100 [(0, .ref 49), (2, .int (v2 + (1 : Int32)))] [] I L Q) : XS mX10_reads 90 [(0, .ref 49), (2, .int v2)] [] I L Q := by
  refine x_iinc 1 (v2 + (1 : Int32)) [(0, .ref 49), (2, .int (v2 + (1 : Int32)))] dX10_reads_90 rfl rfl (Nat.le_of_ble_eq_true rfl) rfl ?_
  refine x_aload_n 0 dX10_reads_93 rfl rfl ?_
  refine xs_geti 3162 dX10_reads_94 fl_X10_150 sh_49 rfl rfl ?_
  exact x_if_eq 104 dX10_reads_97 (by decide) (fun h => K1 h) (fun h => K2 h)
theorem bX10_reads_100 {I : Nat → Nat → Int32} {L : Nat → Int64} {Q : Option Value → (Nat → Nat → Int32) → (Nat → Int64) → Prop} {v2 : Int32}  (K : XS mX10_reads 108 [(0, .ref 49), (2, .int v2)] [.int (-1 : Int32)] I L Q) : XS mX10_reads 100 [(0, .ref 49), (2, .int v2)] [] I L Q := by
  refine x_iconst (v := (-1 : Int32)) dX10_reads_100 (by decide) ?_
  exact x_goto 108 dX10_reads_101 (by decide) (K)
theorem bX10_reads_104 {I : Nat → Nat → Int32} {L : Nat → Int64} {Q : Option Value → (Nat → Nat → Int32) → (Nat → Int64) → Prop} {v2 : Int32}  (K : XS mX10_looks 0 [(0, .ref 49)] [] I L (fun r I' L' => XS mX10_reads 108 [(0, .ref 49), (2, .int v2)] (r.toList ++ []) I' L' Q)) : XS mX10_reads 104 [(0, .ref 49), (2, .int v2)] [] I L Q := by
  refine x_aload_n 0 dX10_reads_104 rfl rfl ?_
  exact xs_callV mX10_looks [] [] 49 10 0 _ rfl dX10_reads_105 ml_X10_154 qX10_looks rfl ⟨Nat.le_of_ble_eq_true rfl, Nat.le_of_ble_eq_true rfl⟩ ⟨rfl, rfl⟩ (Nat.le_of_ble_eq_true rfl) sh_49 (by decide) rfl (Nat.le_of_ble_eq_true rfl) (K)
theorem bX10_reads_108 {I : Nat → Nat → Int32} {L : Nat → Int64} {Q : Option Value → (Nat → Nat → Int32) → (Nat → Int64) → Prop} {v2 : Int32} {s0 : Int32}  (K1 : (¬ s0 = (59 : Int32)) → XS mX10_reads 127 [(0, .ref 49), (2, .int v2), (4, .int s0)] [] I L Q) (K2 : (s0 = (59 : Int32)) → XS mX10_reads 117 [(0, .ref 49), (2, .int v2), (4, .int s0)] [] I L Q) : XS mX10_reads 108 [(0, .ref 49), (2, .int v2)] [.int s0] I L Q := by
  refine x_istore [(0, .ref 49), (2, .int v2), (4, .int s0)] dX10_reads_108 (Nat.le_of_ble_eq_true rfl) rfl ?_
  refine x_iload 2 dX10_reads_110 rfl ?_
  refine x_bipush (v := (59 : Int32)) dX10_reads_112 (by decide) ?_
  exact x_icmp_ne 127 dX10_reads_114 (by decide) (fun h => K1 h) (fun h => K2 h)
theorem bX10_reads_117 {I : Nat → Nat → Int32} {L : Nat → Int64} {Q : Option Value → (Nat → Nat → Int32) → (Nat → Int64) → Prop} {v2 : Int32} {v4 : Int32}  (K1 : ((24 : Int32) ≤ v2) → XS mX10_reads 127 [(0, .ref 49), (2, .int v2), (4, .int v4)] [] I L Q) (K2 : (¬ (24 : Int32) ≤ v2) → XS mX10_reads 123 [(0, .ref 49), (2, .int v2), (4, .int v4)] [] I L Q) : XS mX10_reads 117 [(0, .ref 49), (2, .int v2), (4, .int v4)] [] I L Q := by
  refine x_iload_n 1 dX10_reads_117 rfl rfl ?_
  refine x_bipush (v := (24 : Int32)) dX10_reads_118 (by decide) ?_
  exact x_icmp_ge 127 dX10_reads_120 (by decide) (fun h => K1 h) (fun h => K2 h)
theorem bX10_reads_123 {I : Nat → Nat → Int32} {L : Nat → Int64} {Q : Option Value → (Nat → Nat → Int32) → (Nat → Int64) → Prop} {v2 : Int32} {v4 : Int32}  (K : XS mX10_reads 128 [(0, .ref 49), (2, .int v2), (4, .int v4)] [.int (1 : Int32)] I L Q) : XS mX10_reads 123 [(0, .ref 49), (2, .int v2), (4, .int v4)] [] I L Q := by
  refine x_iconst (v := (1 : Int32)) dX10_reads_123 (by decide) ?_
  exact x_goto 128 dX10_reads_124 (by decide) (K)
theorem bX10_reads_127 {I : Nat → Nat → Int32} {L : Nat → Int64} {Q : Option Value → (Nat → Nat → Int32) → (Nat → Int64) → Prop} {v2 : Int32} {v4 : Int32}  (K : XS mX10_reads 128 [(0, .ref 49), (2, .int v2), (4, .int v4)] [.int (0 : Int32)] I L Q) : XS mX10_reads 127 [(0, .ref 49), (2, .int v2), (4, .int v4)] [] I L Q := by
  refine x_iconst (v := (0 : Int32)) dX10_reads_127 (by decide) ?_
  exact K
theorem bX10_reads_128 {I : Nat → Nat → Int32} {L : Nat → Int64} {Q : Option Value → (Nat → Nat → Int32) → (Nat → Int64) → Prop} {v2 : Int32} {v4 : Int32} {s0 : Int32}  (K1 : (v4 < 0) → XS mX10_reads 139 [(0, .ref 49), (2, .int v2), (3, .int s0)] [] I L Q) (K2 : (¬ v4 < 0) → XS mX10_reads 134 [(0, .ref 49), (2, .int v2), (3, .int s0)] [] I L Q) : XS mX10_reads 128 [(0, .ref 49), (2, .int v2), (4, .int v4)] [.int s0] I L Q := by
  refine x_istore_n [(0, .ref 49), (2, .int v2), (3, .int s0), (4, .int v4)] dX10_reads_128 rfl (Nat.le_of_ble_eq_true rfl) rfl ?_
  refine x_iload 3 dX10_reads_129 rfl ?_
  exact x_if_lt 139 dX10_reads_131 (by decide) (fun h => x_sub [0, 1, 2] rfl (K1 h)) (fun h => x_sub [0, 1, 2] rfl (K2 h))
theorem bX10_reads_134 {I : Nat → Nat → Int32} {L : Nat → Int64} {Q : Option Value → (Nat → Nat → Int32) → (Nat → Int64) → Prop} {v2 : Int32} {v3 : Int32}  (K : XS mX10_takes 0 [(0, .ref 49), (1, .int v3)] [] I L (fun r I' L' => XS mX10_reads 139 [(0, .ref 49), (2, .int v2), (3, .int v3)] (r.toList ++ []) I' L' Q)) : XS mX10_reads 134 [(0, .ref 49), (2, .int v2), (3, .int v3)] [] I L Q := by
  refine x_aload_n 0 dX10_reads_134 rfl rfl ?_
  refine x_iload_n 2 dX10_reads_135 rfl rfl ?_
  exact xs_callV mX10_takes [.int v3] [] 49 10 1 _ rfl dX10_reads_136 ml_X10_158 qX10_takes rfl ⟨Nat.le_of_ble_eq_true rfl, Nat.le_of_ble_eq_true rfl⟩ ⟨rfl, rfl⟩ (Nat.le_of_ble_eq_true rfl) sh_49 (by decide) rfl (Nat.le_of_ble_eq_true rfl) (K)
theorem bX10_reads_139 {I : Nat → Nat → Int32} {L : Nat → Int64} {Q : Option Value → (Nat → Nat → Int32) → (Nat → Int64) → Prop} {v2 : Int32} {v3 : Int32}  (K : XS mX10_reads 75 [(0, .ref 49), (2, .int v2), (3, .int v3)] [] I L Q) : XS mX10_reads 139 [(0, .ref 49), (2, .int v2), (3, .int v3)] [] I L Q := by
  exact x_goto 75 dX10_reads_139 (by decide) (K)
theorem bX10_reads_142 {I : Nat → Nat → Int32} {L : Nat → Int64} {Q : Option Value → (Nat → Nat → Int32) → (Nat → Int64) → Prop} {v2 : Int32}  (K : Q (some (.int v2)) I L) : XS mX10_reads 142 [(2, .int v2)] [] I L Q := by
  refine x_iload_n 0 dX10_reads_142 rfl rfl ?_
  exact xs_iret dX10_reads_143 rfl rfl K
theorem bX10_fault_0 {I : Nat → Nat → Int32} {L : Nat → Int64} {Q : Option Value → (Nat → Nat → Int32) → (Nat → Int64) → Prop}   (K : XS mX10_reads 0 [(0, .ref 49), (1, .int (0 : Int32))] [] I L (fun r I' L' => XS mX10_fault 5 [(0, .ref 49)] (r.toList ++ []) I' L' Q)) : XS mX10_fault 0 [(0, .ref 49)] [] I L Q := by
  refine x_aload_n 0 dX10_fault_0 rfl rfl ?_
  refine x_iconst (v := (0 : Int32)) dX10_fault_1 (by decide) ?_
  exact xs_callV mX10_reads [.int (0 : Int32)] [] 49 10 1 _ rfl dX10_fault_2 ml_X10_199 qX10_reads rfl ⟨Nat.le_of_ble_eq_true rfl, Nat.le_of_ble_eq_true rfl⟩ ⟨rfl, rfl⟩ (Nat.le_of_ble_eq_true rfl) sh_49 (by decide) rfl (Nat.le_of_ble_eq_true rfl) (K)
theorem bX10_fault_5 {I : Nat → Nat → Int32} {L : Nat → Int64} {Q : Option Value → (Nat → Nat → Int32) → (Nat → Int64) → Prop} {s0 : Int32}  (K1 : ((I 3162 0) = 0) → XS mX10_fault 20 [] [] I L Q) (K2 : (¬ (I 3162 0) = 0) → XS mX10_fault 13 [(0, .ref 49)] [] I L Q) : XS mX10_fault 5 [(0, .ref 49)] [.int s0] I L Q := by
  refine x_pop dX10_fault_5 rfl ?_
  refine x_aload_n 0 dX10_fault_6 rfl rfl ?_
  refine xs_geti 3162 dX10_fault_7 fl_X10_150 sh_49 rfl rfl ?_
  exact x_if_eq 20 dX10_fault_10 (by decide) (fun h => x_sub [] rfl (K1 h)) (fun h => K2 h)
theorem bX10_fault_13 {I : Nat → Nat → Int32} {L : Nat → Int64} {Q : Option Value → (Nat → Nat → Int32) → (Nat → Int64) → Prop}   (K : XS mX10_fault 21 [] [.int (I 3160 0)] I L Q) : XS mX10_fault 13 [(0, .ref 49)] [] I L Q := by
  refine x_aload_n 0 dX10_fault_13 rfl rfl ?_
  refine xs_geti 3160 dX10_fault_14 fl_X10_137 sh_49 rfl rfl ?_
  exact x_goto 21 dX10_fault_17 (by decide) (x_sub [] rfl (K))
theorem bX10_fault_20 {I : Nat → Nat → Int32} {L : Nat → Int64} {Q : Option Value → (Nat → Nat → Int32) → (Nat → Int64) → Prop}   (K : XS mX10_fault 21 [] [.int (-1 : Int32)] I L Q) : XS mX10_fault 20 [] [] I L Q := by
  refine x_iconst (v := (-1 : Int32)) dX10_fault_20 (by decide) ?_
  exact K
theorem bX10_fault_21 {I : Nat → Nat → Int32} {L : Nat → Int64} {Q : Option Value → (Nat → Nat → Int32) → (Nat → Int64) → Prop} {s0 : Int32}  (K : Q (some (.int s0)) I L) : XS mX10_fault 21 [] [.int s0] I L Q := by
  exact xs_iret dX10_fault_21 rfl rfl K
theorem bX10_tell_0 {I : Nat → Nat → Int32} {L : Nat → Int64} {Q : Option Value → (Nat → Nat → Int32) → (Nat → Int64) → Prop}   (K : XS mX10_reads 0 [(0, .ref 49), (1, .int (0 : Int32))] [] I L (fun r I' L' => XS mX10_tell 5 [(0, .ref 49)] (r.toList ++ []) I' L' Q)) : XS mX10_tell 0 [(0, .ref 49)] [] I L Q := by
  refine x_aload_n 0 dX10_tell_0 rfl rfl ?_
  refine x_iconst (v := (0 : Int32)) dX10_tell_1 (by decide) ?_
  exact xs_callV mX10_reads [.int (0 : Int32)] [] 49 10 1 _ rfl dX10_tell_2 ml_X10_199 qX10_reads rfl ⟨Nat.le_of_ble_eq_true rfl, Nat.le_of_ble_eq_true rfl⟩ ⟨rfl, rfl⟩ (Nat.le_of_ble_eq_true rfl) sh_49 (by decide) rfl (Nat.le_of_ble_eq_true rfl) (K)
theorem bX10_tell_5 {I : Nat → Nat → Int32} {L : Nat → Int64} {Q : Option Value → (Nat → Nat → Int32) → (Nat → Int64) → Prop} {s0 : Int32}  (K1 : ((I 3162 0) = 0) → XS mX10_tell 16 [(0, .ref 49)] [] I L Q) (K2 : (¬ (I 3162 0) = 0) → XS mX10_tell 13 [] [] I L Q) : XS mX10_tell 5 [(0, .ref 49)] [.int s0] I L Q := by
  refine x_pop dX10_tell_5 rfl ?_
  refine x_aload_n 0 dX10_tell_6 rfl rfl ?_
  refine xs_geti 3162 dX10_tell_7 fl_X10_150 sh_49 rfl rfl ?_
  exact x_if_eq 16 dX10_tell_10 (by decide) (fun h => K1 h) (fun h => x_sub [] rfl (K2 h))
theorem bX10_tell_13 {I : Nat → Nat → Int32} {L : Nat → Int64} {Q : Option Value → (Nat → Nat → Int32) → (Nat → Int64) → Prop}   (K : Q (some (.int (-4 : Int32))) I L) : XS mX10_tell 13 [] [] I L Q := by
  refine x_bipush (v := (-4 : Int32)) dX10_tell_13 (by decide) ?_
  exact xs_iret dX10_tell_15 rfl rfl K
theorem bX10_tell_16 {I : Nat → Nat → Int32} {L : Nat → Int64} {Q : Option Value → (Nat → Nat → Int32) → (Nat → Int64) → Prop}   (K : XS mX10_reads 0 [(0, .ref 49), (1, .int (1 : Int32))] [] I L (fun r I' L' => XS mX10_tell 21 [(0, .ref 49)] (r.toList ++ []) I' L' Q)) : XS mX10_tell 16 [(0, .ref 49)] [] I L Q := by
  refine x_aload_n 0 dX10_tell_16 rfl rfl ?_
  refine x_iconst (v := (1 : Int32)) dX10_tell_17 (by decide) ?_
  exact xs_callV mX10_reads [.int (1 : Int32)] [] 49 10 1 _ rfl dX10_tell_18 ml_X10_199 qX10_reads rfl ⟨Nat.le_of_ble_eq_true rfl, Nat.le_of_ble_eq_true rfl⟩ ⟨rfl, rfl⟩ (Nat.le_of_ble_eq_true rfl) sh_49 (by decide) rfl (Nat.le_of_ble_eq_true rfl) (K)
theorem bX10_tell_21 {I : Nat → Nat → Int32} {L : Nat → Int64} {Q : Option Value → (Nat → Nat → Int32) → (Nat → Int64) → Prop} {s0 : Int32}  (K : XS mX10_tell 64 [(0, .ref 49), (1, .int s0), (2, .int (0 : Int32))] [] (x_up (x_up (x_up (x_up (x_up (x_up (x_up (x_up I 3159 0 (0 : Int32)) 3143 0 (0 : Int32)) 3171 0 (0 : Int32)) 3172 0 (0 : Int32)) 3173 0 (0 : Int32)) 3174 0 (0 : Int32)) 3175 0 (0 : Int32)) 3176 0 (-1 : Int32)) L Q) : XS mX10_tell 21 [(0, .ref 49)] [.int s0] I L Q := by
  refine x_istore_n [(0, .ref 49), (1, .int s0)] dX10_tell_21 rfl (Nat.le_of_ble_eq_true rfl) rfl ?_
  refine x_aload_n 0 dX10_tell_22 rfl rfl ?_
  refine x_iconst (v := (0 : Int32)) dX10_tell_23 (by decide) ?_
  refine xs_puti 3159 dX10_tell_24 fl_X10_134 sh_49 rfl rfl rfl ?_
  refine x_aload_n 0 dX10_tell_27 rfl rfl ?_
  refine x_iconst (v := (0 : Int32)) dX10_tell_28 (by decide) ?_
  refine xs_puti 3143 dX10_tell_29 fl_X10_203 sh_49 rfl rfl rfl ?_
  refine x_aload_n 0 dX10_tell_32 rfl rfl ?_
  refine x_iconst (v := (0 : Int32)) dX10_tell_33 (by decide) ?_
  refine xs_puti 3171 dX10_tell_34 fl_X10_206 sh_49 rfl rfl rfl ?_
  refine x_aload_n 0 dX10_tell_37 rfl rfl ?_
  refine x_iconst (v := (0 : Int32)) dX10_tell_38 (by decide) ?_
  refine xs_puti 3172 dX10_tell_39 fl_X10_209 sh_49 rfl rfl rfl ?_
  refine x_aload_n 0 dX10_tell_42 rfl rfl ?_
  refine x_iconst (v := (0 : Int32)) dX10_tell_43 (by decide) ?_
  refine xs_puti 3173 dX10_tell_44 fl_X10_212 sh_49 rfl rfl rfl ?_
  refine x_aload_n 0 dX10_tell_47 rfl rfl ?_
  refine x_iconst (v := (0 : Int32)) dX10_tell_48 (by decide) ?_
  refine xs_puti 3174 dX10_tell_49 fl_X10_215 sh_49 rfl rfl rfl ?_
  refine x_aload_n 0 dX10_tell_52 rfl rfl ?_
  refine x_iconst (v := (0 : Int32)) dX10_tell_53 (by decide) ?_
  refine xs_puti 3175 dX10_tell_54 fl_X10_218 sh_49 rfl rfl rfl ?_
  refine x_aload_n 0 dX10_tell_57 rfl rfl ?_
  refine x_iconst (v := (-1 : Int32)) dX10_tell_58 (by decide) ?_
  refine xs_puti 3176 dX10_tell_59 fl_X10_74 sh_49 rfl rfl rfl ?_
  refine x_iconst (v := (0 : Int32)) dX10_tell_62 (by decide) ?_
  refine x_istore_n [(0, .ref 49), (1, .int s0), (2, .int (0 : Int32))] dX10_tell_63 rfl (Nat.le_of_ble_eq_true rfl) rfl ?_
  exact K
theorem bX10_tell_64 {I : Nat → Nat → Int32} {L : Nat → Int64} {Q : Option Value → (Nat → Nat → Int32) → (Nat → Int64) → Prop} {v1 : Int32} {v2 : Int32}  (K1 : ((14 : Int32) ≤ v2) → XS mX10_tell 83 [(1, .int v1)] [] I L Q) (K2 : (¬ (14 : Int32) ≤ v2) → XS mX10_tell 70 [(0, .ref 49), (1, .int v1), (2, .int v2)] [] I L Q) : XS mX10_tell 64 [(0, .ref 49), (1, .int v1), (2, .int v2)] [] I L Q := by
  refine x_iload_n 2 dX10_tell_64 rfl rfl ?_
  refine x_bipush (v := (14 : Int32)) dX10_tell_65 (by decide) ?_
  exact x_icmp_ge 83 dX10_tell_67 (by decide) (fun h => x_sub [1] rfl (K1 h)) (fun h => K2 h)
theorem bX10_tell_70 {I : Nat → Nat → Int32} {L : Nat → Int64} {Q : Option Value → (Nat → Nat → Int32) → (Nat → Int64) → Prop} {v1 : Int32} {v2 : Int32} (hb1 : vp_in v2 14) (K : XS mX10_tell 64 [(0, .ref 49), (1, .int v1), (2, .int (v2 + (1 : Int32)))] [] (x_up I 3328 (v2.toNatClampNeg) (0 : Int32)) L Q) : XS mX10_tell 70 [(0, .ref 49), (1, .int v1), (2, .int v2)] [] I L Q := by
  refine x_aload_n 0 dX10_tell_70 rfl rfl ?_
  refine xs_getr dX10_tell_71 fl_X10_20 sh_49 rfl rf_3140 ?_
  refine x_iload_n 2 dX10_tell_74 rfl rfl ?_
  refine x_iconst (v := (0 : Int32)) dX10_tell_75 (by decide) ?_
  refine xs_iast 3328 (v2.toNatClampNeg) dX10_tell_76 sh_52 rfl rfl hb1 ?_
  refine x_iinc 2 (v2 + (1 : Int32)) [(0, .ref 49), (1, .int v1), (2, .int (v2 + (1 : Int32)))] dX10_tell_77 rfl rfl (Nat.le_of_ble_eq_true rfl) rfl ?_
  exact x_goto 64 dX10_tell_80 (by decide) (K)
theorem bX10_tell_83 {I : Nat → Nat → Int32} {L : Nat → Int64} {Q : Option Value → (Nat → Nat → Int32) → (Nat → Int64) → Prop} {v1 : Int32}  (K : Q (some (.int v1)) I L) : XS mX10_tell 83 [(1, .int v1)] [] I L Q := by
  refine x_iload_n 0 dX10_tell_83 rfl rfl ?_
  exact xs_iret dX10_tell_84 rfl rfl K
theorem bX10_link_0 {I : Nat → Nat → Int32} {L : Nat → Int64} {Q : Option Value → (Nat → Nat → Int32) → (Nat → Int64) → Prop} {v1 : Int32} {v2 : Int32}  (K : XS mX10_isLink 0 [(0, .ref 49), (1, .int v1)] [] I L (fun r I' L' => XS mX10_link 5 [(0, .ref 49), (1, .int v1), (2, .int v2)] (r.toList ++ []) I' L' Q)) : XS mX10_link 0 [(0, .ref 49), (1, .int v1), (2, .int v2)] [] I L Q := by
  refine x_aload_n 0 dX10_link_0 rfl rfl ?_
  refine x_iload_n 1 dX10_link_1 rfl rfl ?_
  exact xs_callV mX10_isLink [.int v1] [] 49 10 1 _ rfl dX10_link_2 ml_X10_221 qX10_isLink rfl ⟨Nat.le_of_ble_eq_true rfl, Nat.le_of_ble_eq_true rfl⟩ ⟨rfl, rfl⟩ (Nat.le_of_ble_eq_true rfl) sh_49 (by decide) rfl (Nat.le_of_ble_eq_true rfl) (K)
theorem bX10_link_5 {I : Nat → Nat → Int32} {L : Nat → Int64} {Q : Option Value → (Nat → Nat → Int32) → (Nat → Int64) → Prop} {v1 : Int32} {v2 : Int32} {s0 : Int32}  (K1 : (¬ s0 = 0) → XS mX10_link 11 [(0, .ref 49), (1, .int v1), (2, .int v2)] [] I L Q) (K2 : (s0 = 0) → XS mX10_link 8 [] [] I L Q) : XS mX10_link 5 [(0, .ref 49), (1, .int v1), (2, .int v2)] [.int s0] I L Q := by
  exact x_if_ne 11 dX10_link_5 (by decide) (fun h => K1 h) (fun h => x_sub [] rfl (K2 h))
theorem bX10_link_8 {I : Nat → Nat → Int32} {L : Nat → Int64} {Q : Option Value → (Nat → Nat → Int32) → (Nat → Int64) → Prop}   (K : Q (some (.int (-2 : Int32))) I L) : XS mX10_link 8 [] [] I L Q := by
  refine x_bipush (v := (-2 : Int32)) dX10_link_8 (by decide) ?_
  exact xs_iret dX10_link_10 rfl rfl K
theorem bX10_link_11 {I : Nat → Nat → Int32} {L : Nat → Int64} {Q : Option Value → (Nat → Nat → Int32) → (Nat → Int64) → Prop} {v1 : Int32} {v2 : Int32}  (Kd : (v2.toInt < 0 ∨ 5 < v2.toInt) → XS mX10_link 104 [] [] I L Q) (K0 : (v2 = 0) → XS mX10_link 52 [(0, .ref 49), (1, .int v1)] [] I L Q) (K1 : (v2 = 1) → XS mX10_link 59 [(0, .ref 49), (1, .int v1)] [] I L Q) (K2 : (v2 = 2) → XS mX10_link 66 [(0, .ref 49), (1, .int v1)] [] I L Q) (K3 : (v2 = 3) → XS mX10_link 75 [(0, .ref 49), (1, .int v1)] [] I L Q) (K4 : (v2 = 4) → XS mX10_link 85 [(0, .ref 49), (1, .int v1)] [] I L Q) (K5 : (v2 = 5) → XS mX10_link 97 [(0, .ref 49), (1, .int v1)] [] I L Q) : XS mX10_link 11 [(0, .ref 49), (1, .int v1), (2, .int v2)] [] I L Q := by
  refine x_iload_n 2 dX10_link_11 rfl rfl ?_
  by_cases g1 : v2.toInt < 0
  · exact x_swOut 104 dX10_link_12 (Or.inl g1) (by decide) (x_sub [] rfl (Kd (Or.inl g1)))
  by_cases g2 : 5 < v2.toInt
  · exact x_swOut 104 dX10_link_12 (Or.inr g2) (by decide) (x_sub [] rfl (Kd (Or.inr g2)))
  obtain ⟨k, hk, e⟩ := x_swcase (x := v2) 0 5 g1 (by omega)
  rcases (show k = 0 ∨ k = 1 ∨ k = 2 ∨ k = 3 ∨ k = 4 ∨ k = 5 by omega) with rfl | rfl | rfl | rfl | rfl | rfl
  · exact x_swIn 52 dX10_link_12 g1 g2 (by rw [e]; rfl) (by decide) (x_sub [0, 1] rfl (K0 (x_toI 0 e rfl)))
  · exact x_swIn 59 dX10_link_12 g1 g2 (by rw [e]; rfl) (by decide) (x_sub [0, 1] rfl (K1 (x_toI 1 e rfl)))
  · exact x_swIn 66 dX10_link_12 g1 g2 (by rw [e]; rfl) (by decide) (x_sub [0, 1] rfl (K2 (x_toI 2 e rfl)))
  · exact x_swIn 75 dX10_link_12 g1 g2 (by rw [e]; rfl) (by decide) (x_sub [0, 1] rfl (K3 (x_toI 3 e rfl)))
  · exact x_swIn 85 dX10_link_12 g1 g2 (by rw [e]; rfl) (by decide) (x_sub [0, 1] rfl (K4 (x_toI 4 e rfl)))
  · exact x_swIn 97 dX10_link_12 g1 g2 (by rw [e]; rfl) (by decide) (x_sub [0, 1] rfl (K5 (x_toI 5 e rfl)))
theorem bX10_link_52 {I : Nat → Nat → Int32} {L : Nat → Int64} {Q : Option Value → (Nat → Nat → Int32) → (Nat → Int64) → Prop} {v1 : Int32} (hb1 : vp_in v1 14) (K : Q (some (.int (I 3200 (v1.toNatClampNeg)))) I L) : XS mX10_link 52 [(0, .ref 49), (1, .int v1)] [] I L Q := by
  refine x_aload_n 0 dX10_link_52 rfl rfl ?_
  refine xs_getr dX10_link_53 fl_X10_13 sh_49 rfl rf_3138 ?_
  refine x_iload_n 1 dX10_link_56 rfl rfl ?_
  refine xs_iald 3200 (v1.toNatClampNeg) dX10_link_57 sh_50 rfl rfl hb1 ?_
  exact xs_iret dX10_link_58 rfl rfl K
theorem bX10_link_59 {I : Nat → Nat → Int32} {L : Nat → Int64} {Q : Option Value → (Nat → Nat → Int32) → (Nat → Int64) → Prop} {v1 : Int32} (hb1 : vp_in v1 14) (K : Q (some (.int (I 3264 (v1.toNatClampNeg)))) I L) : XS mX10_link 59 [(0, .ref 49), (1, .int v1)] [] I L Q := by
  refine x_aload_n 0 dX10_link_59 rfl rfl ?_
  refine xs_getr dX10_link_60 fl_X10_17 sh_49 rfl rf_3139 ?_
  refine x_iload_n 1 dX10_link_63 rfl rfl ?_
  refine xs_iald 3264 (v1.toNatClampNeg) dX10_link_64 sh_51 rfl rfl hb1 ?_
  exact xs_iret dX10_link_65 rfl rfl K
theorem bX10_link_66 {I : Nat → Nat → Int32} {L : Nat → Int64} {Q : Option Value → (Nat → Nat → Int32) → (Nat → Int64) → Prop} {v1 : Int32} (hb1 : vp_in ((0 : Int32) + v1) 37) (K : Q (some (.int (I 3392 (((0 : Int32) + v1).toNatClampNeg)))) I L) : XS mX10_link 66 [(0, .ref 49), (1, .int v1)] [] I L Q := by
  refine x_aload_n 0 dX10_link_66 rfl rfl ?_
  refine xs_getr dX10_link_67 fl_X10_23 sh_49 rfl rf_3141 ?_
  refine x_iconst (v := (0 : Int32)) dX10_link_70 (by decide) ?_
  refine x_iload_n 1 dX10_link_71 rfl rfl ?_
  refine x_iadd dX10_link_72 ?_
  refine xs_iald 3392 (((0 : Int32) + v1).toNatClampNeg) dX10_link_73 sh_53 rfl rfl hb1 ?_
  exact xs_iret dX10_link_74 rfl rfl K
theorem bX10_link_75 {I : Nat → Nat → Int32} {L : Nat → Int64} {Q : Option Value → (Nat → Nat → Int32) → (Nat → Int64) → Prop} {v1 : Int32} (hb1 : vp_in ((14 : Int32) + v1) 37) (K : Q (some (.int (I 3392 (((14 : Int32) + v1).toNatClampNeg)))) I L) : XS mX10_link 75 [(0, .ref 49), (1, .int v1)] [] I L Q := by
  refine x_aload_n 0 dX10_link_75 rfl rfl ?_
  refine xs_getr dX10_link_76 fl_X10_23 sh_49 rfl rf_3141 ?_
  refine x_bipush (v := (14 : Int32)) dX10_link_79 (by decide) ?_
  refine x_iload_n 1 dX10_link_81 rfl rfl ?_
  refine x_iadd dX10_link_82 ?_
  refine xs_iald 3392 (((14 : Int32) + v1).toNatClampNeg) dX10_link_83 sh_53 rfl rfl hb1 ?_
  exact xs_iret dX10_link_84 rfl rfl K
theorem bX10_link_85 {I : Nat → Nat → Int32} {L : Nat → Int64} {Q : Option Value → (Nat → Nat → Int32) → (Nat → Int64) → Prop} {v1 : Int32}  (K : Q (some (.int (((I 3392 28) >>> (v1 &&& 31)) &&& (1 : Int32)))) I L) : XS mX10_link 85 [(0, .ref 49), (1, .int v1)] [] I L Q := by
  refine x_aload_n 0 dX10_link_85 rfl rfl ?_
  refine xs_getr dX10_link_86 fl_X10_23 sh_49 rfl rf_3141 ?_
  refine x_bipush (v := (28 : Int32)) dX10_link_89 (by decide) ?_
  refine xs_iald 3392 (28) dX10_link_91 sh_53 rfl (by decide) (x_vpin (by decide)) ?_
  refine x_iload_n 1 dX10_link_92 rfl rfl ?_
  refine x_ishr dX10_link_93 ?_
  refine x_iconst (v := (1 : Int32)) dX10_link_94 (by decide) ?_
  refine x_iand dX10_link_95 ?_
  exact xs_iret dX10_link_96 rfl rfl K
theorem bX10_link_97 {I : Nat → Nat → Int32} {L : Nat → Int64} {Q : Option Value → (Nat → Nat → Int32) → (Nat → Int64) → Prop} {v1 : Int32} (hb1 : vp_in v1 14) (K : Q (some (.int (I 3328 (v1.toNatClampNeg)))) I L) : XS mX10_link 97 [(0, .ref 49), (1, .int v1)] [] I L Q := by
  refine x_aload_n 0 dX10_link_97 rfl rfl ?_
  refine xs_getr dX10_link_98 fl_X10_20 sh_49 rfl rf_3140 ?_
  refine x_iload_n 1 dX10_link_101 rfl rfl ?_
  refine xs_iald 3328 (v1.toNatClampNeg) dX10_link_102 sh_52 rfl rfl hb1 ?_
  exact xs_iret dX10_link_103 rfl rfl K
theorem bX10_link_104 {I : Nat → Nat → Int32} {L : Nat → Int64} {Q : Option Value → (Nat → Nat → Int32) → (Nat → Int64) → Prop}   (K : Q (some (.int (-3 : Int32))) I L) : XS mX10_link 104 [] [] I L Q := by
  refine x_bipush (v := (-3 : Int32)) dX10_link_104 (by decide) ?_
  exact xs_iret dX10_link_106 rfl rfl K
theorem bX10_notes_0 {I : Nat → Nat → Int32} {L : Nat → Int64} {Q : Option Value → (Nat → Nat → Int32) → (Nat → Int64) → Prop}   (K1 : (¬ (I 3143 0) = (8 : Int32)) → XS mX10_notes 49 [(0, .ref 49)] [] I L Q) (K2 : ((I 3143 0) = (8 : Int32)) → XS mX10_notes 9 [(0, .ref 49)] [] I L Q) : XS mX10_notes 0 [(0, .ref 49)] [] I L Q := by
  refine x_aload_n 0 dX10_notes_0 rfl rfl ?_
  refine xs_geti 3143 dX10_notes_1 fl_X10_203 sh_49 rfl rfl ?_
  refine x_bipush (v := (8 : Int32)) dX10_notes_4 (by decide) ?_
  exact x_icmp_ne 49 dX10_notes_6 (by decide) (fun h => K1 h) (fun h => K2 h)
theorem bX10_notes_9 {I : Nat → Nat → Int32} {L : Nat → Int64} {Q : Option Value → (Nat → Nat → Int32) → (Nat → Int64) → Prop}   (K : XS mX10_notes 11 [(0, .ref 49), (1, .int (0 : Int32))] [] I L Q) : XS mX10_notes 9 [(0, .ref 49)] [] I L Q := by
  refine x_iconst (v := (0 : Int32)) dX10_notes_9 (by decide) ?_
  refine x_istore_n [(0, .ref 49), (1, .int (0 : Int32))] dX10_notes_10 rfl (Nat.le_of_ble_eq_true rfl) rfl ?_
  exact K
theorem bX10_notes_11 {I : Nat → Nat → Int32} {L : Nat → Int64} {Q : Option Value → (Nat → Nat → Int32) → (Nat → Int64) → Prop} {v1 : Int32}  (K1 : ((259 : Int32) ≤ v1) → XS mX10_notes 39 [(0, .ref 49)] [] I L Q) (K2 : (¬ (259 : Int32) ≤ v1) → XS mX10_notes 18 [(0, .ref 49), (1, .int v1)] [] I L Q) : XS mX10_notes 11 [(0, .ref 49), (1, .int v1)] [] I L Q := by
  refine x_iload_n 1 dX10_notes_11 rfl rfl ?_
  refine x_sipush (v := (259 : Int32)) dX10_notes_12 (by decide) ?_
  exact x_icmp_ge 39 dX10_notes_15 (by decide) (fun h => x_sub [0] rfl (K1 h)) (fun h => K2 h)
theorem bX10_notes_18 {I : Nat → Nat → Int32} {L : Nat → Int64} {Q : Option Value → (Nat → Nat → Int32) → (Nat → Int64) → Prop} {v1 : Int32} (hb1 : vp_in (v1 + (37 : Int32)) 296) (hb2 : vp_in v1 296) (K : XS mX10_notes 11 [(0, .ref 49), (1, .int (v1 + (1 : Int32)))] [] (x_up I 3456 (v1.toNatClampNeg) (I 3456 ((v1 + (37 : Int32)).toNatClampNeg))) L Q) : XS mX10_notes 18 [(0, .ref 49), (1, .int v1)] [] I L Q := by
  refine x_aload_n 0 dX10_notes_18 rfl rfl ?_
  refine xs_getr dX10_notes_19 fl_X10_26 sh_49 rfl rf_3142 ?_
  refine x_iload_n 1 dX10_notes_22 rfl rfl ?_
  refine x_aload_n 0 dX10_notes_23 rfl rfl ?_
  refine xs_getr dX10_notes_24 fl_X10_26 sh_49 rfl rf_3142 ?_
  refine x_iload_n 1 dX10_notes_27 rfl rfl ?_
  refine x_bipush (v := (37 : Int32)) dX10_notes_28 (by decide) ?_
  refine x_iadd dX10_notes_30 ?_
  refine xs_iald 3456 ((v1 + (37 : Int32)).toNatClampNeg) dX10_notes_31 sh_54 rfl rfl hb1 ?_
  refine xs_iast 3456 (v1.toNatClampNeg) dX10_notes_32 sh_54 rfl rfl hb2 ?_
  refine x_iinc 1 (v1 + (1 : Int32)) [(0, .ref 49), (1, .int (v1 + (1 : Int32)))] dX10_notes_33 rfl rfl (Nat.le_of_ble_eq_true rfl) rfl ?_
  exact x_goto 11 dX10_notes_36 (by decide) (K)
theorem bX10_notes_39 {I : Nat → Nat → Int32} {L : Nat → Int64} {Q : Option Value → (Nat → Nat → Int32) → (Nat → Int64) → Prop}   (K : XS mX10_notes 49 [(0, .ref 49)] [] (x_up I 3143 0 ((I 3143 0) - (1 : Int32))) L Q) : XS mX10_notes 39 [(0, .ref 49)] [] I L Q := by
  refine x_aload_n 0 dX10_notes_39 rfl rfl ?_
  refine x_dup dX10_notes_40 rfl ?_
  refine xs_geti 3143 dX10_notes_41 fl_X10_203 sh_49 rfl rfl ?_
  refine x_iconst (v := (1 : Int32)) dX10_notes_44 (by decide) ?_
  refine x_isub dX10_notes_45 ?_
  refine xs_puti 3143 dX10_notes_46 fl_X10_203 sh_49 rfl rfl rfl ?_
  exact K
theorem bX10_notes_49 {I : Nat → Nat → Int32} {L : Nat → Int64} {Q : Option Value → (Nat → Nat → Int32) → (Nat → Int64) → Prop}   (K : XS mX10_notes 51 [(0, .ref 49), (1, .int (0 : Int32))] [] I L Q) : XS mX10_notes 49 [(0, .ref 49)] [] I L Q := by
  refine x_iconst (v := (0 : Int32)) dX10_notes_49 (by decide) ?_
  refine x_istore_n [(0, .ref 49), (1, .int (0 : Int32))] dX10_notes_50 rfl (Nat.le_of_ble_eq_true rfl) rfl ?_
  exact K
theorem bX10_notes_51 {I : Nat → Nat → Int32} {L : Nat → Int64} {Q : Option Value → (Nat → Nat → Int32) → (Nat → Int64) → Prop} {v1 : Int32}  (K1 : ((37 : Int32) ≤ v1) → XS mX10_notes 83 [(0, .ref 49)] [] I L Q) (K2 : (¬ (37 : Int32) ≤ v1) → XS mX10_notes 57 [(0, .ref 49), (1, .int v1)] [] I L Q) : XS mX10_notes 51 [(0, .ref 49), (1, .int v1)] [] I L Q := by
  refine x_iload_n 1 dX10_notes_51 rfl rfl ?_
  refine x_bipush (v := (37 : Int32)) dX10_notes_52 (by decide) ?_
  exact x_icmp_ge 83 dX10_notes_54 (by decide) (fun h => x_sub [0] rfl (K1 h)) (fun h => K2 h)
theorem bX10_notes_57 {I : Nat → Nat → Int32} {L : Nat → Int64} {Q : Option Value → (Nat → Nat → Int32) → (Nat → Int64) → Prop} {v1 : Int32} (hb1 : vp_in v1 37) (hb2 : vp_in (((37 : Int32) * (I 3143 0)) + v1) 296) (K : XS mX10_notes 51 [(0, .ref 49), (1, .int (v1 + (1 : Int32)))] [] (x_up I 3456 ((((37 : Int32) * (I 3143 0)) + v1).toNatClampNeg) (I 3392 (v1.toNatClampNeg))) L Q) : XS mX10_notes 57 [(0, .ref 49), (1, .int v1)] [] I L Q := by
  refine x_aload_n 0 dX10_notes_57 rfl rfl ?_
  refine xs_getr dX10_notes_58 fl_X10_26 sh_49 rfl rf_3142 ?_
  refine x_bipush (v := (37 : Int32)) dX10_notes_61 (by decide) ?_
  refine x_aload_n 0 dX10_notes_63 rfl rfl ?_
  refine xs_geti 3143 dX10_notes_64 fl_X10_203 sh_49 rfl rfl ?_
  refine x_imul dX10_notes_67 ?_
  refine x_iload_n 1 dX10_notes_68 rfl rfl ?_
  refine x_iadd dX10_notes_69 ?_
  refine x_aload_n 0 dX10_notes_70 rfl rfl ?_
  refine xs_getr dX10_notes_71 fl_X10_23 sh_49 rfl rf_3141 ?_
  refine x_iload_n 1 dX10_notes_74 rfl rfl ?_
  refine xs_iald 3392 (v1.toNatClampNeg) dX10_notes_75 sh_53 rfl rfl hb1 ?_
  refine xs_iast 3456 ((((37 : Int32) * (I 3143 0)) + v1).toNatClampNeg) dX10_notes_76 sh_54 rfl rfl hb2 ?_
  refine x_iinc 1 (v1 + (1 : Int32)) [(0, .ref 49), (1, .int (v1 + (1 : Int32)))] dX10_notes_77 rfl rfl (Nat.le_of_ble_eq_true rfl) rfl ?_
  exact x_goto 51 dX10_notes_80 (by decide) (K)
theorem bX10_notes_83 {I : Nat → Nat → Int32} {L : Nat → Int64} {Q : Option Value → (Nat → Nat → Int32) → (Nat → Int64) → Prop}   (K : Q none (x_up I 3143 0 ((I 3143 0) + (1 : Int32))) L) : XS mX10_notes 83 [(0, .ref 49)] [] I L Q := by
  refine x_aload_n 0 dX10_notes_83 rfl rfl ?_
  refine x_dup dX10_notes_84 rfl ?_
  refine xs_geti 3143 dX10_notes_85 fl_X10_203 sh_49 rfl rfl ?_
  refine x_iconst (v := (1 : Int32)) dX10_notes_88 (by decide) ?_
  refine x_iadd dX10_notes_89 ?_
  refine xs_puti 3143 dX10_notes_90 fl_X10_203 sh_49 rfl rfl rfl ?_
  exact xs_end dX10_notes_93 rfl K
theorem bX10_becomesUp_0 {I : Nat → Nat → Int32} {L : Nat → Int64} {Q : Option Value → (Nat → Nat → Int32) → (Nat → Int64) → Prop} {v1 : Int32} {v2 : Int32}  (K : XS mX10_isLink 0 [(0, .ref 49), (1, .int v1)] [] I L (fun r I' L' => XS mX10_becomesUp 5 [(0, .ref 49), (1, .int v1), (2, .int v2)] (r.toList ++ []) I' L' Q)) : XS mX10_becomesUp 0 [(0, .ref 49), (1, .int v1), (2, .int v2)] [] I L Q := by
  refine x_aload_n 0 dX10_becomesUp_0 rfl rfl ?_
  refine x_iload_n 1 dX10_becomesUp_1 rfl rfl ?_
  exact xs_callV mX10_isLink [.int v1] [] 49 10 1 _ rfl dX10_becomesUp_2 ml_X10_221 qX10_isLink rfl ⟨Nat.le_of_ble_eq_true rfl, Nat.le_of_ble_eq_true rfl⟩ ⟨rfl, rfl⟩ (Nat.le_of_ble_eq_true rfl) sh_49 (by decide) rfl (Nat.le_of_ble_eq_true rfl) (K)
theorem bX10_becomesUp_5 {I : Nat → Nat → Int32} {L : Nat → Int64} {Q : Option Value → (Nat → Nat → Int32) → (Nat → Int64) → Prop} {v1 : Int32} {v2 : Int32} {s0 : Int32}  (K1 : (¬ s0 = 0) → XS mX10_becomesUp 11 [(0, .ref 49), (1, .int v1), (2, .int v2)] [] I L Q) (K2 : (s0 = 0) → XS mX10_becomesUp 8 [] [] I L Q) : XS mX10_becomesUp 5 [(0, .ref 49), (1, .int v1), (2, .int v2)] [.int s0] I L Q := by
  exact x_if_ne 11 dX10_becomesUp_5 (by decide) (fun h => K1 h) (fun h => x_sub [] rfl (K2 h))
theorem bX10_becomesUp_8 {I : Nat → Nat → Int32} {L : Nat → Int64} {Q : Option Value → (Nat → Nat → Int32) → (Nat → Int64) → Prop}   (K : Q (some (.int (-2 : Int32))) I L) : XS mX10_becomesUp 8 [] [] I L Q := by
  refine x_bipush (v := (-2 : Int32)) dX10_becomesUp_8 (by decide) ?_
  exact xs_iret dX10_becomesUp_10 rfl rfl K
theorem bX10_becomesUp_11 {I : Nat → Nat → Int32} {L : Nat → Int64} {Q : Option Value → (Nat → Nat → Int32) → (Nat → Int64) → Prop} {v1 : Int32} {v2 : Int32}  (K1 : (¬ (((I 3392 28) >>> (v1 &&& 31)) &&& (1 : Int32)) = v2) → XS mX10_becomesUp 29 [(0, .ref 49), (1, .int v1)] [] I L Q) (K2 : ((((I 3392 28) >>> (v1 &&& 31)) &&& (1 : Int32)) = v2) → XS mX10_becomesUp 26 [] [] I L Q) : XS mX10_becomesUp 11 [(0, .ref 49), (1, .int v1), (2, .int v2)] [] I L Q := by
  refine x_aload_n 0 dX10_becomesUp_11 rfl rfl ?_
  refine xs_getr dX10_becomesUp_12 fl_X10_23 sh_49 rfl rf_3141 ?_
  refine x_bipush (v := (28 : Int32)) dX10_becomesUp_15 (by decide) ?_
  refine xs_iald 3392 (28) dX10_becomesUp_17 sh_53 rfl (by decide) (x_vpin (by decide)) ?_
  refine x_iload_n 1 dX10_becomesUp_18 rfl rfl ?_
  refine x_ishr dX10_becomesUp_19 ?_
  refine x_iconst (v := (1 : Int32)) dX10_becomesUp_20 (by decide) ?_
  refine x_iand dX10_becomesUp_21 ?_
  refine x_iload_n 2 dX10_becomesUp_22 rfl rfl ?_
  exact x_icmp_ne 29 dX10_becomesUp_23 (by decide) (fun h => x_sub [0, 1] rfl (K1 h)) (fun h => x_sub [] rfl (K2 h))
theorem bX10_becomesUp_26 {I : Nat → Nat → Int32} {L : Nat → Int64} {Q : Option Value → (Nat → Nat → Int32) → (Nat → Int64) → Prop}   (K : Q (some (.int (-4 : Int32))) I L) : XS mX10_becomesUp 26 [] [] I L Q := by
  refine x_bipush (v := (-4 : Int32)) dX10_becomesUp_26 (by decide) ?_
  exact xs_iret dX10_becomesUp_28 rfl rfl K
theorem bX10_becomesUp_29 {I : Nat → Nat → Int32} {L : Nat → Int64} {Q : Option Value → (Nat → Nat → Int32) → (Nat → Int64) → Prop} {v1 : Int32}  (K : XS mX10_notes 0 [(0, .ref 49)] [] I L (fun r I' L' => XS mX10_becomesUp 33 [(0, .ref 49), (1, .int v1)] (r.toList ++ []) I' L' Q)) : XS mX10_becomesUp 29 [(0, .ref 49), (1, .int v1)] [] I L Q := by
  refine x_aload_n 0 dX10_becomesUp_29 rfl rfl ?_
  exact xs_callV mX10_notes [] [] 49 10 0 _ rfl dX10_becomesUp_30 ml_X10_224 qX10_notes rfl ⟨Nat.le_of_ble_eq_true rfl, Nat.le_of_ble_eq_true rfl⟩ ⟨rfl, rfl⟩ (Nat.le_of_ble_eq_true rfl) sh_49 (by decide) rfl (Nat.le_of_ble_eq_true rfl) (K)
theorem bX10_becomesUp_33 {I : Nat → Nat → Int32} {L : Nat → Int64} {Q : Option Value → (Nat → Nat → Int32) → (Nat → Int64) → Prop} {v1 : Int32}  (K : XS mX10_ones 0 [(0, .int ((x_up I 3392 28 ((I 3392 28) ^^^ ((1 : Int32) <<< (v1 &&& 31)))) 3392 28))] [] (x_up I 3392 28 ((I 3392 28) ^^^ ((1 : Int32) <<< (v1 &&& 31)))) L (fun r I' L' => XS mX10_becomesUp 56 [] (r.toList ++ []) I' L' Q)) : XS mX10_becomesUp 33 [(0, .ref 49), (1, .int v1)] [] I L Q := by
  refine x_aload_n 0 dX10_becomesUp_33 rfl rfl ?_
  refine xs_getr dX10_becomesUp_34 fl_X10_23 sh_49 rfl rf_3141 ?_
  refine x_bipush (v := (28 : Int32)) dX10_becomesUp_37 (by decide) ?_
  refine x_dup2 dX10_becomesUp_39 rfl rfl ?_
  refine xs_iald 3392 (28) dX10_becomesUp_40 sh_53 rfl (by decide) (x_vpin (by decide)) ?_
  refine x_iconst (v := (1 : Int32)) dX10_becomesUp_41 (by decide) ?_
  refine x_iload_n 1 dX10_becomesUp_42 rfl rfl ?_
  refine x_ishl dX10_becomesUp_43 ?_
  refine x_ixor dX10_becomesUp_44 ?_
  refine xs_iast 3392 (28) dX10_becomesUp_45 sh_53 rfl (by decide) (x_vpin (by decide)) ?_
  refine x_aload_n 0 dX10_becomesUp_46 rfl rfl ?_
  refine xs_getr dX10_becomesUp_47 fl_X10_23 sh_49 rfl rf_3141 ?_
  refine x_bipush (v := (28 : Int32)) dX10_becomesUp_50 (by decide) ?_
  refine xs_iald 3392 (28) dX10_becomesUp_52 sh_53 rfl (by decide) (x_vpin (by decide)) ?_
  refine x_sub [] rfl ?_
  exact xs_callS mX10_ones [.int ((x_up I 3392 28 ((I 3392 28) ^^^ ((1 : Int32) <<< (v1 &&& 31)))) 3392 28)] [] 1 _ rfl dX10_becomesUp_53 ml_X10_227 qX10_ones rfl ⟨Nat.le_of_ble_eq_true rfl, Nat.le_of_ble_eq_true rfl⟩ ⟨rfl, rfl⟩ (Nat.le_of_ble_eq_true rfl) (Nat.le_of_ble_eq_true rfl) (K)
theorem bX10_becomesUp_56 {I : Nat → Nat → Int32} {L : Nat → Int64} {Q : Option Value → (Nat → Nat → Int32) → (Nat → Int64) → Prop} {s0 : Int32}  (K : Q (some (.int s0)) I L) : XS mX10_becomesUp 56 [] [.int s0] I L Q := by
  exact xs_iret dX10_becomesUp_56 rfl rfl K
