/-! ===== blocks ===== -/
theorem bL_part_0 {I : Nat → Nat → Int32} {L : Nat → Int64} {Q : Option Value → (Nat → Nat → Int32) → (Nat → Int64) → Prop} {v0 : Int32} {v1 : Int32} (hn1 : ¬ v1 = 0) (K : Q (some (.int ((v0 &&& (2147483647 : Int32)) - (v0 &&& (2147483647 : Int32)) / v1 * v1))) I L) : XS mL_part 0 [(0, .int v0), (1, .int v1)] [] I L Q := by
  refine x_iload_n 0 dL_part_0 rfl rfl ?_
  refine x_ldc dL_part_1 ct_L_7 ?_
  refine x_iand dL_part_3 ?_
  refine x_iload_n 1 dL_part_4 rfl rfl ?_
  refine x_irem dL_part_5 hn1 ?_
  exact xs_iret dL_part_6 rfl rfl K
theorem bL_cell_0 {I : Nat → Nat → Int32} {L : Nat → Int64} {Q : Option Value → (Nat → Nat → Int32) → (Nat → Int64) → Prop} {Ln : Nat} {xs : Nat → Int32} {v1 : Int32}  (K1 : (¬ (Int32.ofNat Ln) = 0) → XT (0, 0) Ln xs mL_cell 15 [(0, .ref 1000020), (1, .int v1)] [] I L Q) (K2 : ((Int32.ofNat Ln) = 0) → XT (0, 0) Ln xs mL_cell 5 [(1, .int v1)] [] I L Q) : XT (0, 0) Ln xs mL_cell 0 [(0, .ref 1000020), (1, .int v1)] [] I L Q := by
  refine x_aload_n 0 dL_cell_0 rfl rfl ?_
  refine x_slen dL_cell_1 ?_
  exact x_if_ne 15 dL_cell_2 (by decide) (fun h => K1 h) (fun h => x_sub [1] rfl (K2 h))
theorem bL_cell_5 {I : Nat → Nat → Int32} {L : Nat → Int64} {Q : Option Value → (Nat → Nat → Int32) → (Nat → Int64) → Prop} {Ln : Nat} {xs : Nat → Int32} {v1 : Int32}  (K : XT (0, 0) Ln xs mL_cell 39 [] [.int (((7919 : Int32) * v1) + (3 : Int32))] I L Q) : XT (0, 0) Ln xs mL_cell 5 [(1, .int v1)] [] I L Q := by
  refine x_sipush (v := (7919 : Int32)) dL_cell_5 (by decide) ?_
  refine x_iload_n 0 dL_cell_8 rfl rfl ?_
  refine x_imul dL_cell_9 ?_
  refine x_iconst (v := (3 : Int32)) dL_cell_10 (by decide) ?_
  refine x_iadd dL_cell_11 ?_
  exact x_goto 39 dL_cell_12 (by decide) (x_sub [] rfl (K))
theorem bL_cell_15 {I : Nat → Nat → Int32} {L : Nat → Int64} {Q : Option Value → (Nat → Nat → Int32) → (Nat → Int64) → Prop} {Ln : Nat} {xs : Nat → Int32} {v1 : Int32} (hn1 : ¬ (Int32.ofNat Ln) = 0) (hb2 : vp_in (v1 - v1 / (Int32.ofNat Ln) * (Int32.ofNat Ln)) Ln) (hn3 : ¬ (Int32.ofNat Ln) = 0) (K : XT (0, 0) Ln xs mL_cell 39 [] [.int ((((xs (v1 - v1 / (Int32.ofNat Ln) * (Int32.ofNat Ln)).toNatClampNeg) >>> ((v1 - v1 / (7 : Int32) * (7 : Int32)) &&& 31)) ^^^ ((v1 / (Int32.ofNat Ln)) * (31 : Int32))) ^^^ (v1 * (2654435 : Int32)))] I L Q) : XT (0, 0) Ln xs mL_cell 15 [(0, .ref 1000020), (1, .int v1)] [] I L Q := by
  refine x_aload_n 0 dL_cell_15 rfl rfl ?_
  refine x_iload_n 1 dL_cell_16 rfl rfl ?_
  refine x_aload_n 0 dL_cell_17 rfl rfl ?_
  refine x_slen dL_cell_18 ?_
  refine x_irem dL_cell_19 hn1 ?_
  refine x_sld dL_cell_20 hb2 ?_
  refine x_iload_n 1 dL_cell_21 rfl rfl ?_
  refine x_bipush (v := (7 : Int32)) dL_cell_22 (by decide) ?_
  refine x_irem dL_cell_24 (by decide) ?_
  refine x_ishr dL_cell_25 ?_
  refine x_iload_n 1 dL_cell_26 rfl rfl ?_
  refine x_aload_n 0 dL_cell_27 rfl rfl ?_
  refine x_slen dL_cell_28 ?_
  refine x_idiv dL_cell_29 hn3 ?_
  refine x_bipush (v := (31 : Int32)) dL_cell_30 (by decide) ?_
  refine x_imul dL_cell_32 ?_
  refine x_ixor dL_cell_33 ?_
  refine x_iload_n 1 dL_cell_34 rfl rfl ?_
  refine x_ldc dL_cell_35 ct_L_8 ?_
  refine x_imul dL_cell_37 ?_
  refine x_ixor dL_cell_38 ?_
  exact x_sub [] rfl (K)
theorem bL_cell_39 {I : Nat → Nat → Int32} {L : Nat → Int64} {Q : Option Value → (Nat → Nat → Int32) → (Nat → Int64) → Prop} {Ln : Nat} {xs : Nat → Int32} {s0 : Int32}  (K : Q (some (.int s0)) I L) : XT (0, 0) Ln xs mL_cell 39 [] [.int s0] I L Q := by
  exact xt_iret dL_cell_39 rfl rfl K
theorem bL_nets_0 {I : Nat → Nat → Int32} {L : Nat → Int64} {Q : Option Value → (Nat → Nat → Int32) → (Nat → Int64) → Prop} {Ln : Nat} {xs : Nat → Int32} {v3 : Int32}  (K : XT (0, 0) Ln xs mL_cell 0 [(0, .ref 1000020), (1, .int v3)] [] I L (fun r I' L' => XT (0, 0) Ln xs mL_nets 6 [(0, .ref 0), (1, .ref 49), (2, .ref 1000020), (3, .int v3)] (r.toList ++ [.int (2 : Int32)]) I' L' Q)) : XT (0, 0) Ln xs mL_nets 0 [(0, .ref 0), (1, .ref 49), (2, .ref 1000020), (3, .int v3)] [] I L Q := by
  refine x_iconst (v := (2 : Int32)) dL_nets_0 (by decide) ?_
  refine x_aload_n 2 dL_nets_1 rfl rfl ?_
  refine x_iload_n 3 dL_nets_2 rfl rfl ?_
  exact xt_callSS mL_cell [.ref 1000020, .int v3] [.int (2 : Int32)] 2 _ rfl dL_nets_3 ml_L_9 qL_cell rfl ⟨Nat.le_of_ble_eq_true rfl, Nat.le_of_ble_eq_true rfl⟩ ⟨Nat.le_of_ble_eq_true rfl, Nat.le_of_ble_eq_true rfl⟩ ⟨rfl, rfl⟩ (Nat.le_of_ble_eq_true rfl) (Nat.le_of_ble_eq_true rfl) (K)
theorem bL_nets_6 {I : Nat → Nat → Int32} {L : Nat → Int64} {Q : Option Value → (Nat → Nat → Int32) → (Nat → Int64) → Prop} {Ln : Nat} {xs : Nat → Int32} {v3 : Int32} {s0 : Int32} {s1 : Int32}  (K : XS mL_part 0 [(0, .int s1), (1, .int (7 : Int32))] [] I L (fun r I' L' => XT (0, 0) Ln xs mL_nets 11 [(0, .ref 0), (1, .ref 49), (2, .ref 1000020), (3, .int v3)] (r.toList ++ [.int s0]) I' L' Q)) : XT (0, 0) Ln xs mL_nets 6 [(0, .ref 0), (1, .ref 49), (2, .ref 1000020), (3, .int v3)] [.int s1, .int s0] I L Q := by
  refine x_bipush (v := (7 : Int32)) dL_nets_6 (by decide) ?_
  exact xt_callS mL_part [.int s1, .int (7 : Int32)] [.int s0] 2 _ rfl dL_nets_8 ml_L_15 qL_part rfl ⟨Nat.le_of_ble_eq_true rfl, Nat.le_of_ble_eq_true rfl⟩ ⟨Nat.le_of_ble_eq_true rfl, Nat.le_of_ble_eq_true rfl⟩ ⟨rfl, rfl⟩ (Nat.le_of_ble_eq_true rfl) (Nat.le_of_ble_eq_true rfl) (K)
theorem bL_nets_11 {I : Nat → Nat → Int32} {L : Nat → Int64} {Q : Option Value → (Nat → Nat → Int32) → (Nat → Int64) → Prop} {Ln : Nat} {xs : Nat → Int32} {v3 : Int32} {s0 : Int32} {s1 : Int32}  (K : XT (0, 0) Ln xs mL_cell 0 [(0, .ref 1000020), (1, .int v3)] [] I L (fun r I' L' => XT (0, 0) Ln xs mL_nets 19 [(0, .ref 0), (1, .ref 49), (2, .ref 1000020), (3, .int v3), (4, .int (s0 + s1))] (r.toList ++ []) I' L' Q)) : XT (0, 0) Ln xs mL_nets 11 [(0, .ref 0), (1, .ref 49), (2, .ref 1000020), (3, .int v3)] [.int s1, .int s0] I L Q := by
  refine x_iadd dL_nets_11 ?_
  refine x_istore [(0, .ref 0), (1, .ref 49), (2, .ref 1000020), (3, .int v3), (4, .int (s0 + s1))] dL_nets_12 (Nat.le_of_ble_eq_true rfl) rfl ?_
  refine x_aload_n 2 dL_nets_14 rfl rfl ?_
  refine x_iload_n 3 dL_nets_15 rfl rfl ?_
  exact xt_callSS mL_cell [.ref 1000020, .int v3] [] 2 _ rfl dL_nets_16 ml_L_9 qL_cell rfl ⟨Nat.le_of_ble_eq_true rfl, Nat.le_of_ble_eq_true rfl⟩ ⟨Nat.le_of_ble_eq_true rfl, Nat.le_of_ble_eq_true rfl⟩ ⟨rfl, rfl⟩ (Nat.le_of_ble_eq_true rfl) (Nat.le_of_ble_eq_true rfl) (K)
theorem bL_nets_19 {I : Nat → Nat → Int32} {L : Nat → Int64} {Q : Option Value → (Nat → Nat → Int32) → (Nat → Int64) → Prop} {Ln : Nat} {xs : Nat → Int32} {v3 : Int32} {v4 : Int32} {s0 : Int32}  (K : XS mL_part 0 [(0, .int (s0 >>> ((3 : Int32) &&& 31))), (1, .int (15 : Int32))] [] I L (fun r I' L' => XT (0, 0) Ln xs mL_nets 26 [(0, .ref 0), (1, .ref 49), (2, .ref 1000020), (3, .int v3), (4, .int v4)] (r.toList ++ []) I' L' Q)) : XT (0, 0) Ln xs mL_nets 19 [(0, .ref 0), (1, .ref 49), (2, .ref 1000020), (3, .int v3), (4, .int v4)] [.int s0] I L Q := by
  refine x_iconst (v := (3 : Int32)) dL_nets_19 (by decide) ?_
  refine x_ishr dL_nets_20 ?_
  refine x_bipush (v := (15 : Int32)) dL_nets_21 (by decide) ?_
  exact xt_callS mL_part [.int (s0 >>> ((3 : Int32) &&& 31)), .int (15 : Int32)] [] 2 _ rfl dL_nets_23 ml_L_15 qL_part rfl ⟨Nat.le_of_ble_eq_true rfl, Nat.le_of_ble_eq_true rfl⟩ ⟨Nat.le_of_ble_eq_true rfl, Nat.le_of_ble_eq_true rfl⟩ ⟨rfl, rfl⟩ (Nat.le_of_ble_eq_true rfl) (Nat.le_of_ble_eq_true rfl) (K)
theorem bL_nets_26 {I : Nat → Nat → Int32} {L : Nat → Int64} {Q : Option Value → (Nat → Nat → Int32) → (Nat → Int64) → Prop} {Ln : Nat} {xs : Nat → Int32} {v3 : Int32} {v4 : Int32} {s0 : Int32}  (K : XS mX9_erase 0 [(0, .ref 0)] [] (x_up (x_up I 3136 0 v4) 3136 1 (0 : Int32)) L (fun r I' L' => XT (0, 0) Ln xs mL_nets 41 [(0, .ref 0), (1, .ref 49), (2, .ref 1000020), (3, .int v3), (4, .int v4), (5, .int s0)] (r.toList ++ []) I' L' Q)) : XT (0, 0) Ln xs mL_nets 26 [(0, .ref 0), (1, .ref 49), (2, .ref 1000020), (3, .int v3), (4, .int v4)] [.int s0] I L Q := by
  refine x_istore [(0, .ref 0), (1, .ref 49), (2, .ref 1000020), (3, .int v3), (4, .int v4), (5, .int s0)] dL_nets_26 (Nat.le_of_ble_eq_true rfl) rfl ?_
  refine x_aload_n 1 dL_nets_28 rfl rfl ?_
  refine x_iconst (v := (0 : Int32)) dL_nets_29 (by decide) ?_
  refine x_iload 4 dL_nets_30 rfl ?_
  refine xt_iast 3136 (0) dL_nets_32 sh_49 rfl (by decide) (x_vpin (by decide)) ?_
  refine x_aload_n 1 dL_nets_33 rfl rfl ?_
  refine x_iconst (v := (1 : Int32)) dL_nets_34 (by decide) ?_
  refine x_iconst (v := (0 : Int32)) dL_nets_35 (by decide) ?_
  refine xt_iast 3136 (1) dL_nets_36 sh_49 rfl (by decide) (x_vpin (by decide)) ?_
  refine x_aload_n 0 dL_nets_37 rfl rfl ?_
  exact xt_callV mX9_erase [] [] 0 9 0 _ rfl dL_nets_38 ml_L_19 qX9_erase rfl ⟨Nat.le_of_ble_eq_true rfl, Nat.le_of_ble_eq_true rfl⟩ ⟨Nat.le_of_ble_eq_true rfl, Nat.le_of_ble_eq_true rfl⟩ ⟨rfl, rfl⟩ (Nat.le_of_ble_eq_true rfl) sh_0 (by decide) rfl (Nat.le_of_ble_eq_true rfl) (K)
theorem bL_nets_41 {I : Nat → Nat → Int32} {L : Nat → Int64} {Q : Option Value → (Nat → Nat → Int32) → (Nat → Int64) → Prop} {Ln : Nat} {xs : Nat → Int32} {v3 : Int32} {v4 : Int32} {v5 : Int32} {s0 : Int32}  (K : XS mL_says 0 [(0, .ref 0), (1, .int (110 : Int32)), (2, .int (111 : Int32)), (3, .int (100 : Int32)), (4, .int (101 : Int32))] [] I L (fun r I' L' => XT (0, 0) Ln xs mL_nets 54 [(0, .ref 0), (1, .ref 49), (2, .ref 1000020), (3, .int v3), (4, .int v4), (5, .int v5)] (r.toList ++ []) I' L' Q)) : XT (0, 0) Ln xs mL_nets 41 [(0, .ref 0), (1, .ref 49), (2, .ref 1000020), (3, .int v3), (4, .int v4), (5, .int v5)] [.int s0] I L Q := by
  refine x_pop dL_nets_41 rfl ?_
  refine x_aload_n 0 dL_nets_42 rfl rfl ?_
  refine x_bipush (v := (110 : Int32)) dL_nets_43 (by decide) ?_
  refine x_bipush (v := (111 : Int32)) dL_nets_45 (by decide) ?_
  refine x_bipush (v := (100 : Int32)) dL_nets_47 (by decide) ?_
  refine x_bipush (v := (101 : Int32)) dL_nets_49 (by decide) ?_
  exact xt_callS mL_says [.ref 0, .int (110 : Int32), .int (111 : Int32), .int (100 : Int32), .int (101 : Int32)] [] 5 _ rfl dL_nets_51 ml_L_25 qL_says rfl ⟨Nat.le_of_ble_eq_true rfl, Nat.le_of_ble_eq_true rfl⟩ ⟨Nat.le_of_ble_eq_true rfl, Nat.le_of_ble_eq_true rfl⟩ ⟨rfl, rfl⟩ (Nat.le_of_ble_eq_true rfl) (Nat.le_of_ble_eq_true rfl) (K)
theorem bL_nets_54 {I : Nat → Nat → Int32} {L : Nat → Int64} {Q : Option Value → (Nat → Nat → Int32) → (Nat → Int64) → Prop} {Ln : Nat} {xs : Nat → Int32} {v3 : Int32} {v4 : Int32} {v5 : Int32}  (K : XS mL_says 0 [(0, .ref 0), (1, .int (115 : Int32)), (2, .int ((48 : Int32) + v4)), (3, .int (32 : Int32)), (4, .int (32 : Int32))] [] I L (fun r I' L' => XT (0, 0) Ln xs mL_nets 69 [(0, .ref 0), (1, .ref 49), (2, .ref 1000020), (3, .int v3), (4, .int v4), (5, .int v5)] (r.toList ++ []) I' L' Q)) : XT (0, 0) Ln xs mL_nets 54 [(0, .ref 0), (1, .ref 49), (2, .ref 1000020), (3, .int v3), (4, .int v4), (5, .int v5)] [] I L Q := by
  refine x_aload_n 0 dL_nets_54 rfl rfl ?_
  refine x_bipush (v := (115 : Int32)) dL_nets_55 (by decide) ?_
  refine x_bipush (v := (48 : Int32)) dL_nets_57 (by decide) ?_
  refine x_iload 4 dL_nets_59 rfl ?_
  refine x_iadd dL_nets_61 ?_
  refine x_bipush (v := (32 : Int32)) dL_nets_62 (by decide) ?_
  refine x_bipush (v := (32 : Int32)) dL_nets_64 (by decide) ?_
  exact xt_callS mL_says [.ref 0, .int (115 : Int32), .int ((48 : Int32) + v4), .int (32 : Int32), .int (32 : Int32)] [] 5 _ rfl dL_nets_66 ml_L_25 qL_says rfl ⟨Nat.le_of_ble_eq_true rfl, Nat.le_of_ble_eq_true rfl⟩ ⟨Nat.le_of_ble_eq_true rfl, Nat.le_of_ble_eq_true rfl⟩ ⟨rfl, rfl⟩ (Nat.le_of_ble_eq_true rfl) (Nat.le_of_ble_eq_true rfl) (K)
theorem bL_nets_69 {I : Nat → Nat → Int32} {L : Nat → Int64} {Q : Option Value → (Nat → Nat → Int32) → (Nat → Int64) → Prop} {Ln : Nat} {xs : Nat → Int32} {v3 : Int32} {v4 : Int32} {v5 : Int32}  (K : XT (0, 0) Ln xs mL_nets 72 [(0, .ref 0), (1, .ref 49), (2, .ref 1000020), (3, .int v3), (4, .int v4), (5, .int v5), (6, .int (0 : Int32))] [] I L Q) : XT (0, 0) Ln xs mL_nets 69 [(0, .ref 0), (1, .ref 49), (2, .ref 1000020), (3, .int v3), (4, .int v4), (5, .int v5)] [] I L Q := by
  refine x_iconst (v := (0 : Int32)) dL_nets_69 (by decide) ?_
  refine x_istore [(0, .ref 0), (1, .ref 49), (2, .ref 1000020), (3, .int v3), (4, .int v4), (5, .int v5), (6, .int (0 : Int32))] dL_nets_70 (Nat.le_of_ble_eq_true rfl) rfl ?_
  exact K
theorem bL_nets_72 {I : Nat → Nat → Int32} {L : Nat → Int64} {Q : Option Value → (Nat → Nat → Int32) → (Nat → Int64) → Prop} {Ln : Nat} {xs : Nat → Int32} {v3 : Int32} {v4 : Int32} {v5 : Int32} {v6 : Int32}  (K1 : (v5 ≤ v6) → XT (0, 0) Ln xs mL_nets 347 [(0, .ref 0), (1, .ref 49), (4, .int v4)] [] I L Q) (K2 : (¬ v5 ≤ v6) → XT (0, 0) Ln xs mL_nets 79 [(0, .ref 0), (1, .ref 49), (2, .ref 1000020), (3, .int v3), (4, .int v4), (5, .int v5), (6, .int v6)] [] I L Q) : XT (0, 0) Ln xs mL_nets 72 [(0, .ref 0), (1, .ref 49), (2, .ref 1000020), (3, .int v3), (4, .int v4), (5, .int v5), (6, .int v6)] [] I L Q := by
  refine x_iload 6 dL_nets_72 rfl ?_
  refine x_iload 5 dL_nets_74 rfl ?_
  exact x_icmp_ge 347 dL_nets_76 (by decide) (fun h => x_sub [0, 1, 4] rfl (K1 h)) (fun h => K2 h)
theorem bL_nets_79 {I : Nat → Nat → Int32} {L : Nat → Int64} {Q : Option Value → (Nat → Nat → Int32) → (Nat → Int64) → Prop} {Ln : Nat} {xs : Nat → Int32} {v3 : Int32} {v4 : Int32} {v5 : Int32} {v6 : Int32}  (K : XT (0, 0) Ln xs mL_cell 0 [(0, .ref 1000020), (1, .int ((v3 + (1 : Int32)) + v6))] [] I L (fun r I' L' => XT (0, 0) Ln xs mL_nets 89 [(0, .ref 0), (1, .ref 49), (2, .ref 1000020), (3, .int v3), (4, .int v4), (5, .int v5), (6, .int v6)] (r.toList ++ []) I' L' Q)) : XT (0, 0) Ln xs mL_nets 79 [(0, .ref 0), (1, .ref 49), (2, .ref 1000020), (3, .int v3), (4, .int v4), (5, .int v5), (6, .int v6)] [] I L Q := by
  refine x_aload_n 2 dL_nets_79 rfl rfl ?_
  refine x_iload_n 3 dL_nets_80 rfl rfl ?_
  refine x_iconst (v := (1 : Int32)) dL_nets_81 (by decide) ?_
  refine x_iadd dL_nets_82 ?_
  refine x_iload 6 dL_nets_83 rfl ?_
  refine x_iadd dL_nets_85 ?_
  exact xt_callSS mL_cell [.ref 1000020, .int ((v3 + (1 : Int32)) + v6)] [] 2 _ rfl dL_nets_86 ml_L_9 qL_cell rfl ⟨Nat.le_of_ble_eq_true rfl, Nat.le_of_ble_eq_true rfl⟩ ⟨Nat.le_of_ble_eq_true rfl, Nat.le_of_ble_eq_true rfl⟩ ⟨rfl, rfl⟩ (Nat.le_of_ble_eq_true rfl) (Nat.le_of_ble_eq_true rfl) (K)
theorem bL_nets_89 {I : Nat → Nat → Int32} {L : Nat → Int64} {Q : Option Value → (Nat → Nat → Int32) → (Nat → Int64) → Prop} {Ln : Nat} {xs : Nat → Int32} {v3 : Int32} {v4 : Int32} {v5 : Int32} {v6 : Int32} {s0 : Int32}  (K : XS mL_part 0 [(0, .int s0), (1, .int v4)] [] I L (fun r I' L' => XT (0, 0) Ln xs mL_nets 98 [(0, .ref 0), (1, .ref 49), (2, .ref 1000020), (3, .int v3), (4, .int v4), (5, .int v5), (6, .int v6), (7, .int s0)] (r.toList ++ []) I' L' Q)) : XT (0, 0) Ln xs mL_nets 89 [(0, .ref 0), (1, .ref 49), (2, .ref 1000020), (3, .int v3), (4, .int v4), (5, .int v5), (6, .int v6)] [.int s0] I L Q := by
  refine x_istore [(0, .ref 0), (1, .ref 49), (2, .ref 1000020), (3, .int v3), (4, .int v4), (5, .int v5), (6, .int v6), (7, .int s0)] dL_nets_89 (Nat.le_of_ble_eq_true rfl) rfl ?_
  refine x_iload 7 dL_nets_91 rfl ?_
  refine x_iload 4 dL_nets_93 rfl ?_
  exact xt_callS mL_part [.int s0, .int v4] [] 2 _ rfl dL_nets_95 ml_L_15 qL_part rfl ⟨Nat.le_of_ble_eq_true rfl, Nat.le_of_ble_eq_true rfl⟩ ⟨Nat.le_of_ble_eq_true rfl, Nat.le_of_ble_eq_true rfl⟩ ⟨rfl, rfl⟩ (Nat.le_of_ble_eq_true rfl) (Nat.le_of_ble_eq_true rfl) (K)
theorem bL_nets_98 {I : Nat → Nat → Int32} {L : Nat → Int64} {Q : Option Value → (Nat → Nat → Int32) → (Nat → Int64) → Prop} {Ln : Nat} {xs : Nat → Int32} {v3 : Int32} {v4 : Int32} {v5 : Int32} {v6 : Int32} {v7 : Int32} {s0 : Int32}  (K : XS mL_part 0 [(0, .int (v7 >>> ((3 : Int32) &&& 31))), (1, .int v4)] [] I L (fun r I' L' => XT (0, 0) Ln xs mL_nets 109 [(0, .ref 0), (1, .ref 49), (2, .ref 1000020), (3, .int v3), (4, .int v4), (5, .int v5), (6, .int v6), (7, .int v7), (8, .int s0)] (r.toList ++ []) I' L' Q)) : XT (0, 0) Ln xs mL_nets 98 [(0, .ref 0), (1, .ref 49), (2, .ref 1000020), (3, .int v3), (4, .int v4), (5, .int v5), (6, .int v6), (7, .int v7)] [.int s0] I L Q := by
  refine x_istore [(0, .ref 0), (1, .ref 49), (2, .ref 1000020), (3, .int v3), (4, .int v4), (5, .int v5), (6, .int v6), (7, .int v7), (8, .int s0)] dL_nets_98 (Nat.le_of_ble_eq_true rfl) rfl ?_
  refine x_iload 7 dL_nets_100 rfl ?_
  refine x_iconst (v := (3 : Int32)) dL_nets_102 (by decide) ?_
  refine x_ishr dL_nets_103 ?_
  refine x_iload 4 dL_nets_104 rfl ?_
  exact xt_callS mL_part [.int (v7 >>> ((3 : Int32) &&& 31)), .int v4] [] 2 _ rfl dL_nets_106 ml_L_15 qL_part rfl ⟨Nat.le_of_ble_eq_true rfl, Nat.le_of_ble_eq_true rfl⟩ ⟨Nat.le_of_ble_eq_true rfl, Nat.le_of_ble_eq_true rfl⟩ ⟨rfl, rfl⟩ (Nat.le_of_ble_eq_true rfl) (Nat.le_of_ble_eq_true rfl) (K)
theorem bL_nets_109 {I : Nat → Nat → Int32} {L : Nat → Int64} {Q : Option Value → (Nat → Nat → Int32) → (Nat → Int64) → Prop} {Ln : Nat} {xs : Nat → Int32} {v3 : Int32} {v4 : Int32} {v5 : Int32} {v6 : Int32} {v7 : Int32} {v8 : Int32} {s0 : Int32}  (K : XS mL_part 0 [(0, .int (v7 >>> ((6 : Int32) &&& 31))), (1, .int (3 : Int32))] [] I L (fun r I' L' => XT (0, 0) Ln xs mL_nets 120 [(0, .ref 0), (1, .ref 49), (2, .ref 1000020), (3, .int v3), (4, .int v4), (5, .int v5), (6, .int v6), (7, .int v7), (8, .int v8), (9, .int s0)] (r.toList ++ []) I' L' Q)) : XT (0, 0) Ln xs mL_nets 109 [(0, .ref 0), (1, .ref 49), (2, .ref 1000020), (3, .int v3), (4, .int v4), (5, .int v5), (6, .int v6), (7, .int v7), (8, .int v8)] [.int s0] I L Q := by
  refine x_istore [(0, .ref 0), (1, .ref 49), (2, .ref 1000020), (3, .int v3), (4, .int v4), (5, .int v5), (6, .int v6), (7, .int v7), (8, .int v8), (9, .int s0)] dL_nets_109 (Nat.le_of_ble_eq_true rfl) rfl ?_
  refine x_iload 7 dL_nets_111 rfl ?_
  refine x_bipush (v := (6 : Int32)) dL_nets_113 (by decide) ?_
  refine x_ishr dL_nets_115 ?_
  refine x_iconst (v := (3 : Int32)) dL_nets_116 (by decide) ?_
  exact xt_callS mL_part [.int (v7 >>> ((6 : Int32) &&& 31)), .int (3 : Int32)] [] 2 _ rfl dL_nets_117 ml_L_15 qL_part rfl ⟨Nat.le_of_ble_eq_true rfl, Nat.le_of_ble_eq_true rfl⟩ ⟨Nat.le_of_ble_eq_true rfl, Nat.le_of_ble_eq_true rfl⟩ ⟨rfl, rfl⟩ (Nat.le_of_ble_eq_true rfl) (Nat.le_of_ble_eq_true rfl) (K)
theorem bL_nets_120 {I : Nat → Nat → Int32} {L : Nat → Int64} {Q : Option Value → (Nat → Nat → Int32) → (Nat → Int64) → Prop} {Ln : Nat} {xs : Nat → Int32} {v3 : Int32} {v4 : Int32} {v5 : Int32} {v6 : Int32} {v7 : Int32} {v8 : Int32} {v9 : Int32} {s0 : Int32}  (K1 : (s0 ≤ 0) → XT (0, 0) Ln xs mL_nets 132 [(0, .ref 0), (1, .ref 49), (2, .ref 1000020), (3, .int v3), (4, .int v4), (5, .int v5), (6, .int v6), (7, .int v7), (8, .int v8), (9, .int v9)] [] I L Q) (K2 : (¬ s0 ≤ 0) → XT (0, 0) Ln xs mL_nets 123 [(0, .ref 0), (1, .ref 49), (2, .ref 1000020), (3, .int v3), (4, .int v4), (5, .int v5), (6, .int v6), (7, .int v7), (8, .int v8)] [] I L Q) : XT (0, 0) Ln xs mL_nets 120 [(0, .ref 0), (1, .ref 49), (2, .ref 1000020), (3, .int v3), (4, .int v4), (5, .int v5), (6, .int v6), (7, .int v7), (8, .int v8), (9, .int v9)] [.int s0] I L Q := by
  exact x_if_le 132 dL_nets_120 (by decide) (fun h => K1 h) (fun h => x_sub [0, 1, 2, 3, 4, 5, 6, 7, 8] rfl (K2 h))
theorem bL_nets_123 {I : Nat → Nat → Int32} {L : Nat → Int64} {Q : Option Value → (Nat → Nat → Int32) → (Nat → Int64) → Prop} {Ln : Nat} {xs : Nat → Int32} {v3 : Int32} {v4 : Int32} {v5 : Int32} {v6 : Int32} {v7 : Int32} {v8 : Int32} (hn1 : ¬ v4 = 0) (K : XT (0, 0) Ln xs mL_nets 132 [(0, .ref 0), (1, .ref 49), (2, .ref 1000020), (3, .int v3), (4, .int v4), (5, .int v5), (6, .int v6), (7, .int v7), (8, .int v8), (9, .int ((v8 + (1 : Int32)) - (v8 + (1 : Int32)) / v4 * v4))] [] I L Q) : XT (0, 0) Ln xs mL_nets 123 [(0, .ref 0), (1, .ref 49), (2, .ref 1000020), (3, .int v3), (4, .int v4), (5, .int v5), (6, .int v6), (7, .int v7), (8, .int v8)] [] I L Q := by
  refine x_iload 8 dL_nets_123 rfl ?_
  refine x_iconst (v := (1 : Int32)) dL_nets_125 (by decide) ?_
  refine x_iadd dL_nets_126 ?_
  refine x_iload 4 dL_nets_127 rfl ?_
  refine x_irem dL_nets_129 hn1 ?_
  refine x_istore [(0, .ref 0), (1, .ref 49), (2, .ref 1000020), (3, .int v3), (4, .int v4), (5, .int v5), (6, .int v6), (7, .int v7), (8, .int v8), (9, .int ((v8 + (1 : Int32)) - (v8 + (1 : Int32)) / v4 * v4))] dL_nets_130 (Nat.le_of_ble_eq_true rfl) rfl ?_
  exact K
theorem bL_nets_132 {I : Nat → Nat → Int32} {L : Nat → Int64} {Q : Option Value → (Nat → Nat → Int32) → (Nat → Int64) → Prop} {Ln : Nat} {xs : Nat → Int32} {v3 : Int32} {v4 : Int32} {v5 : Int32} {v6 : Int32} {v7 : Int32} {v8 : Int32} {v9 : Int32}  (K : XS mL_part 0 [(0, .int (v7 >>> ((20 : Int32) &&& 31))), (1, .int (2 : Int32))] [] I L (fun r I' L' => XT (0, 0) Ln xs mL_nets 147 [(0, .ref 0), (1, .ref 49), (2, .ref 1000020), (3, .int v3), (4, .int v4), (5, .int v5), (6, .int v6), (7, .int v7), (8, .int v8), (9, .int v9)] (r.toList ++ [.int (v7 >>> ((9 : Int32) &&& 31)), .int (1 : Int32)]) I' L' Q)) : XT (0, 0) Ln xs mL_nets 132 [(0, .ref 0), (1, .ref 49), (2, .ref 1000020), (3, .int v3), (4, .int v4), (5, .int v5), (6, .int v6), (7, .int v7), (8, .int v8), (9, .int v9)] [] I L Q := by
  refine x_iconst (v := (1 : Int32)) dL_nets_132 (by decide) ?_
  refine x_iload 7 dL_nets_133 rfl ?_
  refine x_bipush (v := (9 : Int32)) dL_nets_135 (by decide) ?_
  refine x_ishr dL_nets_137 ?_
  refine x_iload 7 dL_nets_138 rfl ?_
  refine x_bipush (v := (20 : Int32)) dL_nets_140 (by decide) ?_
  refine x_ishr dL_nets_142 ?_
  refine x_iconst (v := (2 : Int32)) dL_nets_143 (by decide) ?_
  exact xt_callS mL_part [.int (v7 >>> ((20 : Int32) &&& 31)), .int (2 : Int32)] [.int (v7 >>> ((9 : Int32) &&& 31)), .int (1 : Int32)] 2 _ rfl dL_nets_144 ml_L_15 qL_part rfl ⟨Nat.le_of_ble_eq_true rfl, Nat.le_of_ble_eq_true rfl⟩ ⟨Nat.le_of_ble_eq_true rfl, Nat.le_of_ble_eq_true rfl⟩ ⟨rfl, rfl⟩ (Nat.le_of_ble_eq_true rfl) (Nat.le_of_ble_eq_true rfl) (K)
theorem bL_nets_147 {I : Nat → Nat → Int32} {L : Nat → Int64} {Q : Option Value → (Nat → Nat → Int32) → (Nat → Int64) → Prop} {Ln : Nat} {xs : Nat → Int32} {v3 : Int32} {v4 : Int32} {v5 : Int32} {v6 : Int32} {v7 : Int32} {v8 : Int32} {v9 : Int32} {s0 : Int32} {s1 : Int32} {s2 : Int32}  (K1 : (¬ s2 = 0) → XT (0, 0) Ln xs mL_nets 155 [(0, .ref 0), (1, .ref 49), (2, .ref 1000020), (3, .int v3), (4, .int v4), (5, .int v5), (6, .int v6), (7, .int v7), (8, .int v8), (9, .int v9)] [.int s1, .int s0] I L Q) (K2 : (s2 = 0) → XT (0, 0) Ln xs mL_nets 150 [(0, .ref 0), (1, .ref 49), (2, .ref 1000020), (3, .int v3), (4, .int v4), (5, .int v5), (6, .int v6), (7, .int v7), (8, .int v8), (9, .int v9)] [.int s1, .int s0] I L Q) : XT (0, 0) Ln xs mL_nets 147 [(0, .ref 0), (1, .ref 49), (2, .ref 1000020), (3, .int v3), (4, .int v4), (5, .int v5), (6, .int v6), (7, .int v7), (8, .int v8), (9, .int v9)] [.int s2, .int s1, .int s0] I L Q := by
  exact x_if_ne 155 dL_nets_147 (by decide) (fun h => K1 h) (fun h => K2 h)
theorem bL_nets_150 {I : Nat → Nat → Int32} {L : Nat → Int64} {Q : Option Value → (Nat → Nat → Int32) → (Nat → Int64) → Prop} {Ln : Nat} {xs : Nat → Int32} {v3 : Int32} {v4 : Int32} {v5 : Int32} {v6 : Int32} {v7 : Int32} {v8 : Int32} {v9 : Int32} {s0 : Int32} {s1 : Int32}  (K : XT (0, 0) Ln xs mL_nets 156 [(0, .ref 0), (1, .ref 49), (2, .ref 1000020), (3, .int v3), (4, .int v4), (5, .int v5), (6, .int v6), (7, .int v7), (8, .int v8), (9, .int v9)] [.int (9 : Int32), .int s1, .int s0] I L Q) : XT (0, 0) Ln xs mL_nets 150 [(0, .ref 0), (1, .ref 49), (2, .ref 1000020), (3, .int v3), (4, .int v4), (5, .int v5), (6, .int v6), (7, .int v7), (8, .int v8), (9, .int v9)] [.int s1, .int s0] I L Q := by
  refine x_bipush (v := (9 : Int32)) dL_nets_150 (by decide) ?_
  exact x_goto 156 dL_nets_152 (by decide) (K)
theorem bL_nets_155 {I : Nat → Nat → Int32} {L : Nat → Int64} {Q : Option Value → (Nat → Nat → Int32) → (Nat → Int64) → Prop} {Ln : Nat} {xs : Nat → Int32} {v3 : Int32} {v4 : Int32} {v5 : Int32} {v6 : Int32} {v7 : Int32} {v8 : Int32} {v9 : Int32} {s0 : Int32} {s1 : Int32}  (K : XT (0, 0) Ln xs mL_nets 156 [(0, .ref 0), (1, .ref 49), (2, .ref 1000020), (3, .int v3), (4, .int v4), (5, .int v5), (6, .int v6), (7, .int v7), (8, .int v8), (9, .int v9)] [.int (3 : Int32), .int s1, .int s0] I L Q) : XT (0, 0) Ln xs mL_nets 155 [(0, .ref 0), (1, .ref 49), (2, .ref 1000020), (3, .int v3), (4, .int v4), (5, .int v5), (6, .int v6), (7, .int v7), (8, .int v8), (9, .int v9)] [.int s1, .int s0] I L Q := by
  refine x_iconst (v := (3 : Int32)) dL_nets_155 (by decide) ?_
  exact K
theorem bL_nets_156 {I : Nat → Nat → Int32} {L : Nat → Int64} {Q : Option Value → (Nat → Nat → Int32) → (Nat → Int64) → Prop} {Ln : Nat} {xs : Nat → Int32} {v3 : Int32} {v4 : Int32} {v5 : Int32} {v6 : Int32} {v7 : Int32} {v8 : Int32} {v9 : Int32} {s0 : Int32} {s1 : Int32} {s2 : Int32}  (K : XS mL_part 0 [(0, .int s1), (1, .int s2)] [] I L (fun r I' L' => XT (0, 0) Ln xs mL_nets 159 [(0, .ref 0), (1, .ref 49), (2, .ref 1000020), (3, .int v3), (4, .int v4), (5, .int v5), (6, .int v6), (7, .int v7), (8, .int v8), (9, .int v9)] (r.toList ++ [.int s0]) I' L' Q)) : XT (0, 0) Ln xs mL_nets 156 [(0, .ref 0), (1, .ref 49), (2, .ref 1000020), (3, .int v3), (4, .int v4), (5, .int v5), (6, .int v6), (7, .int v7), (8, .int v8), (9, .int v9)] [.int s2, .int s1, .int s0] I L Q := by
  exact xt_callS mL_part [.int s1, .int s2] [.int s0] 2 _ rfl dL_nets_156 ml_L_15 qL_part rfl ⟨Nat.le_of_ble_eq_true rfl, Nat.le_of_ble_eq_true rfl⟩ ⟨Nat.le_of_ble_eq_true rfl, Nat.le_of_ble_eq_true rfl⟩ ⟨rfl, rfl⟩ (Nat.le_of_ble_eq_true rfl) (Nat.le_of_ble_eq_true rfl) (K)
theorem bL_nets_159 {I : Nat → Nat → Int32} {L : Nat → Int64} {Q : Option Value → (Nat → Nat → Int32) → (Nat → Int64) → Prop} {Ln : Nat} {xs : Nat → Int32} {v3 : Int32} {v4 : Int32} {v5 : Int32} {v6 : Int32} {v7 : Int32} {v8 : Int32} {v9 : Int32} {s0 : Int32} {s1 : Int32}  (K : XS mL_part 0 [(0, .int (v7 >>> ((21 : Int32) &&& 31))), (1, .int (2 : Int32))] [] I L (fun r I' L' => XT (0, 0) Ln xs mL_nets 177 [(0, .ref 0), (1, .ref 49), (2, .ref 1000020), (3, .int v3), (4, .int v4), (5, .int v5), (6, .int v6), (8, .int v8), (9, .int v9), (10, .int (s0 + s1))] (r.toList ++ [.int (v7 >>> ((13 : Int32) &&& 31)), .int (1 : Int32)]) I' L' Q)) : XT (0, 0) Ln xs mL_nets 159 [(0, .ref 0), (1, .ref 49), (2, .ref 1000020), (3, .int v3), (4, .int v4), (5, .int v5), (6, .int v6), (7, .int v7), (8, .int v8), (9, .int v9)] [.int s1, .int s0] I L Q := by
  refine x_iadd dL_nets_159 ?_
  refine x_istore [(0, .ref 0), (1, .ref 49), (2, .ref 1000020), (3, .int v3), (4, .int v4), (5, .int v5), (6, .int v6), (7, .int v7), (8, .int v8), (9, .int v9), (10, .int (s0 + s1))] dL_nets_160 (Nat.le_of_ble_eq_true rfl) rfl ?_
  refine x_iconst (v := (1 : Int32)) dL_nets_162 (by decide) ?_
  refine x_iload 7 dL_nets_163 rfl ?_
  refine x_bipush (v := (13 : Int32)) dL_nets_165 (by decide) ?_
  refine x_ishr dL_nets_167 ?_
  refine x_iload 7 dL_nets_168 rfl ?_
  refine x_bipush (v := (21 : Int32)) dL_nets_170 (by decide) ?_
  refine x_ishr dL_nets_172 ?_
  refine x_iconst (v := (2 : Int32)) dL_nets_173 (by decide) ?_
  refine x_sub [0, 1, 2, 3, 4, 5, 6, 8, 9, 10] rfl ?_
  exact xt_callS mL_part [.int (v7 >>> ((21 : Int32) &&& 31)), .int (2 : Int32)] [.int (v7 >>> ((13 : Int32) &&& 31)), .int (1 : Int32)] 2 _ rfl dL_nets_174 ml_L_15 qL_part rfl ⟨Nat.le_of_ble_eq_true rfl, Nat.le_of_ble_eq_true rfl⟩ ⟨Nat.le_of_ble_eq_true rfl, Nat.le_of_ble_eq_true rfl⟩ ⟨rfl, rfl⟩ (Nat.le_of_ble_eq_true rfl) (Nat.le_of_ble_eq_true rfl) (K)
theorem bL_nets_177 {I : Nat → Nat → Int32} {L : Nat → Int64} {Q : Option Value → (Nat → Nat → Int32) → (Nat → Int64) → Prop} {Ln : Nat} {xs : Nat → Int32} {v3 : Int32} {v4 : Int32} {v5 : Int32} {v6 : Int32} {v8 : Int32} {v9 : Int32} {v10 : Int32} {s0 : Int32} {s1 : Int32} {s2 : Int32}  (K1 : (¬ s2 = 0) → XT (0, 0) Ln xs mL_nets 185 [(0, .ref 0), (1, .ref 49), (2, .ref 1000020), (3, .int v3), (4, .int v4), (5, .int v5), (6, .int v6), (8, .int v8), (9, .int v9), (10, .int v10)] [.int s1, .int s0] I L Q) (K2 : (s2 = 0) → XT (0, 0) Ln xs mL_nets 180 [(0, .ref 0), (1, .ref 49), (2, .ref 1000020), (3, .int v3), (4, .int v4), (5, .int v5), (6, .int v6), (8, .int v8), (9, .int v9), (10, .int v10)] [.int s1, .int s0] I L Q) : XT (0, 0) Ln xs mL_nets 177 [(0, .ref 0), (1, .ref 49), (2, .ref 1000020), (3, .int v3), (4, .int v4), (5, .int v5), (6, .int v6), (8, .int v8), (9, .int v9), (10, .int v10)] [.int s2, .int s1, .int s0] I L Q := by
  exact x_if_ne 185 dL_nets_177 (by decide) (fun h => K1 h) (fun h => K2 h)
theorem bL_nets_180 {I : Nat → Nat → Int32} {L : Nat → Int64} {Q : Option Value → (Nat → Nat → Int32) → (Nat → Int64) → Prop} {Ln : Nat} {xs : Nat → Int32} {v3 : Int32} {v4 : Int32} {v5 : Int32} {v6 : Int32} {v8 : Int32} {v9 : Int32} {v10 : Int32} {s0 : Int32} {s1 : Int32}  (K : XT (0, 0) Ln xs mL_nets 186 [(0, .ref 0), (1, .ref 49), (2, .ref 1000020), (3, .int v3), (4, .int v4), (5, .int v5), (6, .int v6), (8, .int v8), (9, .int v9), (10, .int v10)] [.int (9 : Int32), .int s1, .int s0] I L Q) : XT (0, 0) Ln xs mL_nets 180 [(0, .ref 0), (1, .ref 49), (2, .ref 1000020), (3, .int v3), (4, .int v4), (5, .int v5), (6, .int v6), (8, .int v8), (9, .int v9), (10, .int v10)] [.int s1, .int s0] I L Q := by
  refine x_bipush (v := (9 : Int32)) dL_nets_180 (by decide) ?_
  exact x_goto 186 dL_nets_182 (by decide) (K)
theorem bL_nets_185 {I : Nat → Nat → Int32} {L : Nat → Int64} {Q : Option Value → (Nat → Nat → Int32) → (Nat → Int64) → Prop} {Ln : Nat} {xs : Nat → Int32} {v3 : Int32} {v4 : Int32} {v5 : Int32} {v6 : Int32} {v8 : Int32} {v9 : Int32} {v10 : Int32} {s0 : Int32} {s1 : Int32}  (K : XT (0, 0) Ln xs mL_nets 186 [(0, .ref 0), (1, .ref 49), (2, .ref 1000020), (3, .int v3), (4, .int v4), (5, .int v5), (6, .int v6), (8, .int v8), (9, .int v9), (10, .int v10)] [.int (3 : Int32), .int s1, .int s0] I L Q) : XT (0, 0) Ln xs mL_nets 185 [(0, .ref 0), (1, .ref 49), (2, .ref 1000020), (3, .int v3), (4, .int v4), (5, .int v5), (6, .int v6), (8, .int v8), (9, .int v9), (10, .int v10)] [.int s1, .int s0] I L Q := by
  refine x_iconst (v := (3 : Int32)) dL_nets_185 (by decide) ?_
  exact K
theorem bL_nets_186 {I : Nat → Nat → Int32} {L : Nat → Int64} {Q : Option Value → (Nat → Nat → Int32) → (Nat → Int64) → Prop} {Ln : Nat} {xs : Nat → Int32} {v3 : Int32} {v4 : Int32} {v5 : Int32} {v6 : Int32} {v8 : Int32} {v9 : Int32} {v10 : Int32} {s0 : Int32} {s1 : Int32} {s2 : Int32}  (K : XS mL_part 0 [(0, .int s1), (1, .int s2)] [] I L (fun r I' L' => XT (0, 0) Ln xs mL_nets 189 [(0, .ref 0), (1, .ref 49), (2, .ref 1000020), (3, .int v3), (4, .int v4), (5, .int v5), (6, .int v6), (8, .int v8), (9, .int v9), (10, .int v10)] (r.toList ++ [.int s0]) I' L' Q)) : XT (0, 0) Ln xs mL_nets 186 [(0, .ref 0), (1, .ref 49), (2, .ref 1000020), (3, .int v3), (4, .int v4), (5, .int v5), (6, .int v6), (8, .int v8), (9, .int v9), (10, .int v10)] [.int s2, .int s1, .int s0] I L Q := by
  exact xt_callS mL_part [.int s1, .int s2] [.int s0] 2 _ rfl dL_nets_186 ml_L_15 qL_part rfl ⟨Nat.le_of_ble_eq_true rfl, Nat.le_of_ble_eq_true rfl⟩ ⟨Nat.le_of_ble_eq_true rfl, Nat.le_of_ble_eq_true rfl⟩ ⟨rfl, rfl⟩ (Nat.le_of_ble_eq_true rfl) (Nat.le_of_ble_eq_true rfl) (K)
theorem bL_nets_189 {I : Nat → Nat → Int32} {L : Nat → Int64} {Q : Option Value → (Nat → Nat → Int32) → (Nat → Int64) → Prop} {Ln : Nat} {xs : Nat → Int32} {v3 : Int32} {v4 : Int32} {v5 : Int32} {v6 : Int32} {v8 : Int32} {v9 : Int32} {v10 : Int32} {s0 : Int32} {s1 : Int32}  (K1 : (¬ v8 = v9) → XT (0, 0) Ln xs mL_nets 202 [(0, .ref 0), (1, .ref 49), (2, .ref 1000020), (3, .int v3), (4, .int v4), (5, .int v5), (6, .int v6), (8, .int v8), (9, .int v9), (10, .int v10), (11, .int (s0 + s1))] [] I L Q) (K2 : (v8 = v9) → XT (0, 0) Ln xs mL_nets 199 [(0, .ref 0), (1, .ref 49), (2, .ref 1000020), (3, .int v3), (4, .int v4), (5, .int v5), (6, .int v6)] [] I L Q) : XT (0, 0) Ln xs mL_nets 189 [(0, .ref 0), (1, .ref 49), (2, .ref 1000020), (3, .int v3), (4, .int v4), (5, .int v5), (6, .int v6), (8, .int v8), (9, .int v9), (10, .int v10)] [.int s1, .int s0] I L Q := by
  refine x_iadd dL_nets_189 ?_
  refine x_istore [(0, .ref 0), (1, .ref 49), (2, .ref 1000020), (3, .int v3), (4, .int v4), (5, .int v5), (6, .int v6), (8, .int v8), (9, .int v9), (10, .int v10), (11, .int (s0 + s1))] dL_nets_190 (Nat.le_of_ble_eq_true rfl) rfl ?_
  refine x_iload 7 dL_nets_192 rfl ?_
  refine x_iload 8 dL_nets_194 rfl ?_
  exact x_icmp_ne 202 dL_nets_196 (by decide) (fun h => K1 h) (fun h => x_sub [0, 1, 2, 3, 4, 5, 6] rfl (K2 h))
theorem bL_nets_199 {I : Nat → Nat → Int32} {L : Nat → Int64} {Q : Option Value → (Nat → Nat → Int32) → (Nat → Int64) → Prop} {Ln : Nat} {xs : Nat → Int32} {v3 : Int32} {v4 : Int32} {v5 : Int32} {v6 : Int32}  (K : XT (0, 0) Ln xs mL_nets 341 [(0, .ref 0), (1, .ref 49), (2, .ref 1000020), (3, .int v3), (4, .int v4), (5, .int v5), (6, .int v6)] [] I L Q) : XT (0, 0) Ln xs mL_nets 199 [(0, .ref 0), (1, .ref 49), (2, .ref 1000020), (3, .int v3), (4, .int v4), (5, .int v5), (6, .int v6)] [] I L Q := by
  exact x_goto 341 dL_nets_199 (by decide) (K)
theorem bL_nets_202 {I : Nat → Nat → Int32} {L : Nat → Int64} {Q : Option Value → (Nat → Nat → Int32) → (Nat → Int64) → Prop} {Ln : Nat} {xs : Nat → Int32} {v3 : Int32} {v4 : Int32} {v5 : Int32} {v6 : Int32} {v8 : Int32} {v9 : Int32} {v10 : Int32} {v11 : Int32}  (K : XS mL_says 0 [(0, .ref 0), (1, .int (59 : Int32)), (2, .int (108 : Int32)), (3, .int (105 : Int32)), (4, .int (110 : Int32))] [] I L (fun r I' L' => XT (0, 0) Ln xs mL_nets 214 [(0, .ref 0), (1, .ref 49), (2, .ref 1000020), (3, .int v3), (4, .int v4), (5, .int v5), (6, .int v6), (8, .int v8), (9, .int v9), (10, .int v10), (11, .int v11)] (r.toList ++ []) I' L' Q)) : XT (0, 0) Ln xs mL_nets 202 [(0, .ref 0), (1, .ref 49), (2, .ref 1000020), (3, .int v3), (4, .int v4), (5, .int v5), (6, .int v6), (8, .int v8), (9, .int v9), (10, .int v10), (11, .int v11)] [] I L Q := by
  refine x_aload_n 0 dL_nets_202 rfl rfl ?_
  refine x_bipush (v := (59 : Int32)) dL_nets_203 (by decide) ?_
  refine x_bipush (v := (108 : Int32)) dL_nets_205 (by decide) ?_
  refine x_bipush (v := (105 : Int32)) dL_nets_207 (by decide) ?_
  refine x_bipush (v := (110 : Int32)) dL_nets_209 (by decide) ?_
  exact xt_callS mL_says [.ref 0, .int (59 : Int32), .int (108 : Int32), .int (105 : Int32), .int (110 : Int32)] [] 5 _ rfl dL_nets_211 ml_L_25 qL_says rfl ⟨Nat.le_of_ble_eq_true rfl, Nat.le_of_ble_eq_true rfl⟩ ⟨Nat.le_of_ble_eq_true rfl, Nat.le_of_ble_eq_true rfl⟩ ⟨rfl, rfl⟩ (Nat.le_of_ble_eq_true rfl) (Nat.le_of_ble_eq_true rfl) (K)
theorem bL_nets_214 {I : Nat → Nat → Int32} {L : Nat → Int64} {Q : Option Value → (Nat → Nat → Int32) → (Nat → Int64) → Prop} {Ln : Nat} {xs : Nat → Int32} {v3 : Int32} {v4 : Int32} {v5 : Int32} {v6 : Int32} {v8 : Int32} {v9 : Int32} {v10 : Int32} {v11 : Int32}  (K : XS mL_says 0 [(0, .ref 0), (1, .int (107 : Int32)), (2, .int ((48 : Int32) + v8)), (3, .int (32 : Int32)), (4, .int ((48 : Int32) + v9))] [] I L (fun r I' L' => XT (0, 0) Ln xs mL_nets 232 [(0, .ref 0), (1, .ref 49), (2, .ref 1000020), (3, .int v3), (4, .int v4), (5, .int v5), (6, .int v6), (8, .int v8), (9, .int v9), (10, .int v10), (11, .int v11)] (r.toList ++ []) I' L' Q)) : XT (0, 0) Ln xs mL_nets 214 [(0, .ref 0), (1, .ref 49), (2, .ref 1000020), (3, .int v3), (4, .int v4), (5, .int v5), (6, .int v6), (8, .int v8), (9, .int v9), (10, .int v10), (11, .int v11)] [] I L Q := by
  refine x_aload_n 0 dL_nets_214 rfl rfl ?_
  refine x_bipush (v := (107 : Int32)) dL_nets_215 (by decide) ?_
  refine x_bipush (v := (48 : Int32)) dL_nets_217 (by decide) ?_
  refine x_iload 7 dL_nets_219 rfl ?_
  refine x_iadd dL_nets_221 ?_
  refine x_bipush (v := (32 : Int32)) dL_nets_222 (by decide) ?_
  refine x_bipush (v := (48 : Int32)) dL_nets_224 (by decide) ?_
  refine x_iload 8 dL_nets_226 rfl ?_
  refine x_iadd dL_nets_228 ?_
  exact xt_callS mL_says [.ref 0, .int (107 : Int32), .int ((48 : Int32) + v8), .int (32 : Int32), .int ((48 : Int32) + v9)] [] 5 _ rfl dL_nets_229 ml_L_25 qL_says rfl ⟨Nat.le_of_ble_eq_true rfl, Nat.le_of_ble_eq_true rfl⟩ ⟨Nat.le_of_ble_eq_true rfl, Nat.le_of_ble_eq_true rfl⟩ ⟨rfl, rfl⟩ (Nat.le_of_ble_eq_true rfl) (Nat.le_of_ble_eq_true rfl) (K)
theorem bL_nets_232 {I : Nat → Nat → Int32} {L : Nat → Int64} {Q : Option Value → (Nat → Nat → Int32) → (Nat → Int64) → Prop} {Ln : Nat} {xs : Nat → Int32} {v3 : Int32} {v4 : Int32} {v5 : Int32} {v6 : Int32} {v8 : Int32} {v9 : Int32} {v10 : Int32} {v11 : Int32}  (K : XS mL_says 0 [(0, .ref 0), (1, .int (32 : Int32)), (2, .int ((48 : Int32) + v10)), (3, .int (32 : Int32)), (4, .int ((48 : Int32) + v11))] [] I L (fun r I' L' => XT (0, 0) Ln xs mL_nets 250 [(0, .ref 0), (1, .ref 49), (2, .ref 1000020), (3, .int v3), (4, .int v4), (5, .int v5), (6, .int v6), (8, .int v8), (9, .int v9), (10, .int v10), (11, .int v11)] (r.toList ++ []) I' L' Q)) : XT (0, 0) Ln xs mL_nets 232 [(0, .ref 0), (1, .ref 49), (2, .ref 1000020), (3, .int v3), (4, .int v4), (5, .int v5), (6, .int v6), (8, .int v8), (9, .int v9), (10, .int v10), (11, .int v11)] [] I L Q := by
  refine x_aload_n 0 dL_nets_232 rfl rfl ?_
  refine x_bipush (v := (32 : Int32)) dL_nets_233 (by decide) ?_
  refine x_bipush (v := (48 : Int32)) dL_nets_235 (by decide) ?_
  refine x_iload 9 dL_nets_237 rfl ?_
  refine x_iadd dL_nets_239 ?_
  refine x_bipush (v := (32 : Int32)) dL_nets_240 (by decide) ?_
  refine x_bipush (v := (48 : Int32)) dL_nets_242 (by decide) ?_
  refine x_iload 10 dL_nets_244 rfl ?_
  refine x_iadd dL_nets_246 ?_
  exact xt_callS mL_says [.ref 0, .int (32 : Int32), .int ((48 : Int32) + v10), .int (32 : Int32), .int ((48 : Int32) + v11)] [] 5 _ rfl dL_nets_247 ml_L_25 qL_says rfl ⟨Nat.le_of_ble_eq_true rfl, Nat.le_of_ble_eq_true rfl⟩ ⟨Nat.le_of_ble_eq_true rfl, Nat.le_of_ble_eq_true rfl⟩ ⟨rfl, rfl⟩ (Nat.le_of_ble_eq_true rfl) (Nat.le_of_ble_eq_true rfl) (K)
theorem bL_nets_250 {I : Nat → Nat → Int32} {L : Nat → Int64} {Q : Option Value → (Nat → Nat → Int32) → (Nat → Int64) → Prop} {Ln : Nat} {xs : Nat → Int32} {v3 : Int32} {v4 : Int32} {v5 : Int32} {v6 : Int32} {v8 : Int32} {v9 : Int32} {v10 : Int32} {v11 : Int32}  (K : XS mL_linkOf 0 [(0, .ref 49), (1, .int v8), (2, .int v9)] [] I L (fun r I' L' => XT (0, 0) Ln xs mL_nets 258 [(0, .ref 0), (1, .ref 49), (2, .ref 1000020), (3, .int v3), (4, .int v4), (5, .int v5), (6, .int v6), (8, .int v8), (9, .int v9), (10, .int v10), (11, .int v11)] (r.toList ++ []) I' L' Q)) : XT (0, 0) Ln xs mL_nets 250 [(0, .ref 0), (1, .ref 49), (2, .ref 1000020), (3, .int v3), (4, .int v4), (5, .int v5), (6, .int v6), (8, .int v8), (9, .int v9), (10, .int v10), (11, .int v11)] [] I L Q := by
  refine x_aload_n 1 dL_nets_250 rfl rfl ?_
  refine x_iload 7 dL_nets_251 rfl ?_
  refine x_iload 8 dL_nets_253 rfl ?_
  exact xt_callS mL_linkOf [.ref 49, .int v8, .int v9] [] 3 _ rfl dL_nets_255 ml_L_29 qL_linkOf rfl ⟨Nat.le_of_ble_eq_true rfl, Nat.le_of_ble_eq_true rfl⟩ ⟨Nat.le_of_ble_eq_true rfl, Nat.le_of_ble_eq_true rfl⟩ ⟨rfl, rfl⟩ (Nat.le_of_ble_eq_true rfl) (Nat.le_of_ble_eq_true rfl) (K)
theorem bL_nets_258 {I : Nat → Nat → Int32} {L : Nat → Int64} {Q : Option Value → (Nat → Nat → Int32) → (Nat → Int64) → Prop} {Ln : Nat} {xs : Nat → Int32} {v3 : Int32} {v4 : Int32} {v5 : Int32} {v6 : Int32} {v8 : Int32} {v9 : Int32} {v10 : Int32} {v11 : Int32} {s0 : Int32}  (K1 : (0 ≤ s0) → XT (0, 0) Ln xs mL_nets 321 [(0, .ref 0), (1, .ref 49), (2, .ref 1000020), (3, .int v3), (4, .int v4), (5, .int v5), (6, .int v6), (10, .int v10), (11, .int v11), (12, .int s0)] [] I L Q) (K2 : (¬ 0 ≤ s0) → XT (0, 0) Ln xs mL_nets 265 [(0, .ref 0), (1, .ref 49), (2, .ref 1000020), (3, .int v3), (4, .int v4), (5, .int v5), (6, .int v6), (8, .int v8), (9, .int v9), (10, .int v10), (11, .int v11)] [] I L Q) : XT (0, 0) Ln xs mL_nets 258 [(0, .ref 0), (1, .ref 49), (2, .ref 1000020), (3, .int v3), (4, .int v4), (5, .int v5), (6, .int v6), (8, .int v8), (9, .int v9), (10, .int v10), (11, .int v11)] [.int s0] I L Q := by
  refine x_istore [(0, .ref 0), (1, .ref 49), (2, .ref 1000020), (3, .int v3), (4, .int v4), (5, .int v5), (6, .int v6), (8, .int v8), (9, .int v9), (10, .int v10), (11, .int v11), (12, .int s0)] dL_nets_258 (Nat.le_of_ble_eq_true rfl) rfl ?_
  refine x_iload 11 dL_nets_260 rfl ?_
  exact x_if_ge 321 dL_nets_262 (by decide) (fun h => x_sub [0, 1, 2, 3, 4, 5, 6, 9, 10, 11] rfl (K1 h)) (fun h => x_sub [0, 1, 2, 3, 4, 5, 6, 7, 8, 9, 10] rfl (K2 h))
theorem bL_nets_265 {I : Nat → Nat → Int32} {L : Nat → Int64} {Q : Option Value → (Nat → Nat → Int32) → (Nat → Int64) → Prop} {Ln : Nat} {xs : Nat → Int32} {v3 : Int32} {v4 : Int32} {v5 : Int32} {v6 : Int32} {v8 : Int32} {v9 : Int32} {v10 : Int32} {v11 : Int32}  (K1 : (v9 ≤ v8) → XT (0, 0) Ln xs mL_nets 296 [(0, .ref 0), (1, .ref 49), (2, .ref 1000020), (3, .int v3), (4, .int v4), (5, .int v5), (6, .int v6), (8, .int v8), (9, .int v9), (10, .int v10), (11, .int v11), (12, .int (I 3136 1))] [.int ((2 : Int32) + ((4 : Int32) * (I 3136 1))), .ref 49] (x_up I 3136 1 ((I 3136 1) + (1 : Int32))) L Q) (K2 : (¬ v9 ≤ v8) → XT (0, 0) Ln xs mL_nets 291 [(0, .ref 0), (1, .ref 49), (2, .ref 1000020), (3, .int v3), (4, .int v4), (5, .int v5), (6, .int v6), (8, .int v8), (9, .int v9), (10, .int v10), (11, .int v11), (12, .int (I 3136 1))] [.int ((2 : Int32) + ((4 : Int32) * (I 3136 1))), .ref 49] (x_up I 3136 1 ((I 3136 1) + (1 : Int32))) L Q) : XT (0, 0) Ln xs mL_nets 265 [(0, .ref 0), (1, .ref 49), (2, .ref 1000020), (3, .int v3), (4, .int v4), (5, .int v5), (6, .int v6), (8, .int v8), (9, .int v9), (10, .int v10), (11, .int v11)] [] I L Q := by
  refine x_aload_n 1 dL_nets_265 rfl rfl ?_
  refine x_iconst (v := (1 : Int32)) dL_nets_266 (by decide) ?_
  refine xt_iald 3136 (1) dL_nets_267 sh_49 rfl (by decide) (x_vpin (by decide)) ?_
  refine x_istore [(0, .ref 0), (1, .ref 49), (2, .ref 1000020), (3, .int v3), (4, .int v4), (5, .int v5), (6, .int v6), (8, .int v8), (9, .int v9), (10, .int v10), (11, .int v11), (12, .int (I 3136 1))] dL_nets_268 (Nat.le_of_ble_eq_true rfl) rfl ?_
  refine x_aload_n 1 dL_nets_270 rfl rfl ?_
  refine x_iconst (v := (1 : Int32)) dL_nets_271 (by decide) ?_
  refine x_dup2 dL_nets_272 rfl rfl ?_
  refine xt_iald 3136 (1) dL_nets_273 sh_49 rfl (by decide) (x_vpin (by decide)) ?_
  refine x_iconst (v := (1 : Int32)) dL_nets_274 (by decide) ?_
  refine x_iadd dL_nets_275 ?_
  refine xt_iast 3136 (1) dL_nets_276 sh_49 rfl (by decide) (x_vpin (by decide)) ?_
  refine x_aload_n 1 dL_nets_277 rfl rfl ?_
  refine x_iconst (v := (2 : Int32)) dL_nets_278 (by decide) ?_
  refine x_iconst (v := (4 : Int32)) dL_nets_279 (by decide) ?_
  refine x_iload 11 dL_nets_280 rfl ?_
  refine x_imul dL_nets_282 ?_
  refine x_iadd dL_nets_283 ?_
  refine x_iload 7 dL_nets_284 rfl ?_
  refine x_iload 8 dL_nets_286 rfl ?_
  exact x_icmp_ge 296 dL_nets_288 (by decide) (fun h => K1 h) (fun h => K2 h)
theorem bL_nets_291 {I : Nat → Nat → Int32} {L : Nat → Int64} {Q : Option Value → (Nat → Nat → Int32) → (Nat → Int64) → Prop} {Ln : Nat} {xs : Nat → Int32} {v3 : Int32} {v4 : Int32} {v5 : Int32} {v6 : Int32} {v8 : Int32} {v9 : Int32} {v10 : Int32} {v11 : Int32} {v12 : Int32} {s1 : Int32}  (K : XT (0, 0) Ln xs mL_nets 298 [(0, .ref 0), (1, .ref 49), (2, .ref 1000020), (3, .int v3), (4, .int v4), (5, .int v5), (6, .int v6), (8, .int v8), (9, .int v9), (10, .int v10), (11, .int v11), (12, .int v12)] [.int v8, .int s1, .ref 49] I L Q) : XT (0, 0) Ln xs mL_nets 291 [(0, .ref 0), (1, .ref 49), (2, .ref 1000020), (3, .int v3), (4, .int v4), (5, .int v5), (6, .int v6), (8, .int v8), (9, .int v9), (10, .int v10), (11, .int v11), (12, .int v12)] [.int s1, .ref 49] I L Q := by
  refine x_iload 7 dL_nets_291 rfl ?_
  exact x_goto 298 dL_nets_293 (by decide) (K)
theorem bL_nets_296 {I : Nat → Nat → Int32} {L : Nat → Int64} {Q : Option Value → (Nat → Nat → Int32) → (Nat → Int64) → Prop} {Ln : Nat} {xs : Nat → Int32} {v3 : Int32} {v4 : Int32} {v5 : Int32} {v6 : Int32} {v8 : Int32} {v9 : Int32} {v10 : Int32} {v11 : Int32} {v12 : Int32} {s1 : Int32}  (K : XT (0, 0) Ln xs mL_nets 298 [(0, .ref 0), (1, .ref 49), (2, .ref 1000020), (3, .int v3), (4, .int v4), (5, .int v5), (6, .int v6), (8, .int v8), (9, .int v9), (10, .int v10), (11, .int v11), (12, .int v12)] [.int v9, .int s1, .ref 49] I L Q) : XT (0, 0) Ln xs mL_nets 296 [(0, .ref 0), (1, .ref 49), (2, .ref 1000020), (3, .int v3), (4, .int v4), (5, .int v5), (6, .int v6), (8, .int v8), (9, .int v9), (10, .int v10), (11, .int v11), (12, .int v12)] [.int s1, .ref 49] I L Q := by
  refine x_iload 8 dL_nets_296 rfl ?_
  exact K
theorem bL_nets_298 {I : Nat → Nat → Int32} {L : Nat → Int64} {Q : Option Value → (Nat → Nat → Int32) → (Nat → Int64) → Prop} {Ln : Nat} {xs : Nat → Int32} {v3 : Int32} {v4 : Int32} {v5 : Int32} {v6 : Int32} {v8 : Int32} {v9 : Int32} {v10 : Int32} {v11 : Int32} {v12 : Int32} {s1 : Int32} {s2 : Int32} (hb1 : vp_in s1 64) (K1 : (v9 ≤ v8) → XT (0, 0) Ln xs mL_nets 318 [(0, .ref 0), (1, .ref 49), (2, .ref 1000020), (3, .int v3), (4, .int v4), (5, .int v5), (6, .int v6), (8, .int v8), (10, .int v10), (11, .int v11), (12, .int v12)] [.int ((3 : Int32) + ((4 : Int32) * v12)), .ref 49] (x_up I 3136 (s1.toNatClampNeg) s2) L Q) (K2 : (¬ v9 ≤ v8) → XT (0, 0) Ln xs mL_nets 313 [(0, .ref 0), (1, .ref 49), (2, .ref 1000020), (3, .int v3), (4, .int v4), (5, .int v5), (6, .int v6), (9, .int v9), (10, .int v10), (11, .int v11), (12, .int v12)] [.int ((3 : Int32) + ((4 : Int32) * v12)), .ref 49] (x_up I 3136 (s1.toNatClampNeg) s2) L Q) : XT (0, 0) Ln xs mL_nets 298 [(0, .ref 0), (1, .ref 49), (2, .ref 1000020), (3, .int v3), (4, .int v4), (5, .int v5), (6, .int v6), (8, .int v8), (9, .int v9), (10, .int v10), (11, .int v11), (12, .int v12)] [.int s2, .int s1, .ref 49] I L Q := by
  refine xt_iast 3136 (s1.toNatClampNeg) dL_nets_298 sh_49 rfl rfl hb1 ?_
  refine x_aload_n 1 dL_nets_299 rfl rfl ?_
  refine x_iconst (v := (3 : Int32)) dL_nets_300 (by decide) ?_
  refine x_iconst (v := (4 : Int32)) dL_nets_301 (by decide) ?_
  refine x_iload 11 dL_nets_302 rfl ?_
  refine x_imul dL_nets_304 ?_
  refine x_iadd dL_nets_305 ?_
  refine x_iload 7 dL_nets_306 rfl ?_
  refine x_iload 8 dL_nets_308 rfl ?_
  exact x_icmp_ge 318 dL_nets_310 (by decide) (fun h => x_sub [0, 1, 2, 3, 4, 5, 6, 7, 9, 10, 11] rfl (K1 h)) (fun h => x_sub [0, 1, 2, 3, 4, 5, 6, 8, 9, 10, 11] rfl (K2 h))
theorem bL_nets_313 {I : Nat → Nat → Int32} {L : Nat → Int64} {Q : Option Value → (Nat → Nat → Int32) → (Nat → Int64) → Prop} {Ln : Nat} {xs : Nat → Int32} {v3 : Int32} {v4 : Int32} {v5 : Int32} {v6 : Int32} {v9 : Int32} {v10 : Int32} {v11 : Int32} {v12 : Int32} {s1 : Int32}  (K : XT (0, 0) Ln xs mL_nets 320 [(0, .ref 0), (1, .ref 49), (2, .ref 1000020), (3, .int v3), (4, .int v4), (5, .int v5), (6, .int v6), (10, .int v10), (11, .int v11), (12, .int v12)] [.int v9, .int s1, .ref 49] I L Q) : XT (0, 0) Ln xs mL_nets 313 [(0, .ref 0), (1, .ref 49), (2, .ref 1000020), (3, .int v3), (4, .int v4), (5, .int v5), (6, .int v6), (9, .int v9), (10, .int v10), (11, .int v11), (12, .int v12)] [.int s1, .ref 49] I L Q := by
  refine x_iload 7 dL_nets_313 rfl ?_
  exact x_goto 320 dL_nets_315 (by decide) (x_sub [0, 1, 2, 3, 4, 5, 6, 8, 9, 10] rfl (K))
theorem bL_nets_318 {I : Nat → Nat → Int32} {L : Nat → Int64} {Q : Option Value → (Nat → Nat → Int32) → (Nat → Int64) → Prop} {Ln : Nat} {xs : Nat → Int32} {v3 : Int32} {v4 : Int32} {v5 : Int32} {v6 : Int32} {v8 : Int32} {v10 : Int32} {v11 : Int32} {v12 : Int32} {s1 : Int32}  (K : XT (0, 0) Ln xs mL_nets 320 [(0, .ref 0), (1, .ref 49), (2, .ref 1000020), (3, .int v3), (4, .int v4), (5, .int v5), (6, .int v6), (10, .int v10), (11, .int v11), (12, .int v12)] [.int v8, .int s1, .ref 49] I L Q) : XT (0, 0) Ln xs mL_nets 318 [(0, .ref 0), (1, .ref 49), (2, .ref 1000020), (3, .int v3), (4, .int v4), (5, .int v5), (6, .int v6), (8, .int v8), (10, .int v10), (11, .int v11), (12, .int v12)] [.int s1, .ref 49] I L Q := by
  refine x_iload 7 dL_nets_318 rfl ?_
  exact x_sub [0, 1, 2, 3, 4, 5, 6, 8, 9, 10] rfl (K)
theorem bL_nets_320 {I : Nat → Nat → Int32} {L : Nat → Int64} {Q : Option Value → (Nat → Nat → Int32) → (Nat → Int64) → Prop} {Ln : Nat} {xs : Nat → Int32} {v3 : Int32} {v4 : Int32} {v5 : Int32} {v6 : Int32} {v10 : Int32} {v11 : Int32} {v12 : Int32} {s1 : Int32} {s2 : Int32} (hb1 : vp_in s1 64) (K : XT (0, 0) Ln xs mL_nets 321 [(0, .ref 0), (1, .ref 49), (2, .ref 1000020), (3, .int v3), (4, .int v4), (5, .int v5), (6, .int v6), (10, .int v10), (11, .int v11), (12, .int v12)] [] (x_up I 3136 (s1.toNatClampNeg) s2) L Q) : XT (0, 0) Ln xs mL_nets 320 [(0, .ref 0), (1, .ref 49), (2, .ref 1000020), (3, .int v3), (4, .int v4), (5, .int v5), (6, .int v6), (10, .int v10), (11, .int v11), (12, .int v12)] [.int s2, .int s1, .ref 49] I L Q := by
  refine xt_iast 3136 (s1.toNatClampNeg) dL_nets_320 sh_49 rfl rfl hb1 ?_
  exact K
theorem bL_nets_321 {I : Nat → Nat → Int32} {L : Nat → Int64} {Q : Option Value → (Nat → Nat → Int32) → (Nat → Int64) → Prop} {Ln : Nat} {xs : Nat → Int32} {v3 : Int32} {v4 : Int32} {v5 : Int32} {v6 : Int32} {v10 : Int32} {v11 : Int32} {v12 : Int32} (hb1 : vp_in ((4 : Int32) + ((4 : Int32) * v12)) 64) (hb2 : vp_in ((5 : Int32) + ((4 : Int32) * v12)) 64) (K : XT (0, 0) Ln xs mL_nets 341 [(0, .ref 0), (1, .ref 49), (2, .ref 1000020), (3, .int v3), (4, .int v4), (5, .int v5), (6, .int v6)] [] (x_up (x_up I 3136 (((4 : Int32) + ((4 : Int32) * v12)).toNatClampNeg) v10) 3136 (((5 : Int32) + ((4 : Int32) * v12)).toNatClampNeg) v11) L Q) : XT (0, 0) Ln xs mL_nets 321 [(0, .ref 0), (1, .ref 49), (2, .ref 1000020), (3, .int v3), (4, .int v4), (5, .int v5), (6, .int v6), (10, .int v10), (11, .int v11), (12, .int v12)] [] I L Q := by
  refine x_aload_n 1 dL_nets_321 rfl rfl ?_
  refine x_iconst (v := (4 : Int32)) dL_nets_322 (by decide) ?_
  refine x_iconst (v := (4 : Int32)) dL_nets_323 (by decide) ?_
  refine x_iload 9 dL_nets_324 rfl ?_
  refine x_imul dL_nets_326 ?_
  refine x_iadd dL_nets_327 ?_
  refine x_iload 7 dL_nets_328 rfl ?_
  refine xt_iast 3136 (((4 : Int32) + ((4 : Int32) * v12)).toNatClampNeg) dL_nets_330 sh_49 rfl rfl hb1 ?_
  refine x_aload_n 1 dL_nets_331 rfl rfl ?_
  refine x_iconst (v := (5 : Int32)) dL_nets_332 (by decide) ?_
  refine x_iconst (v := (4 : Int32)) dL_nets_333 (by decide) ?_
  refine x_iload 9 dL_nets_334 rfl ?_
  refine x_imul dL_nets_336 ?_
  refine x_iadd dL_nets_337 ?_
  refine x_iload 8 dL_nets_338 rfl ?_
  refine xt_iast 3136 (((5 : Int32) + ((4 : Int32) * v12)).toNatClampNeg) dL_nets_340 sh_49 rfl rfl hb2 ?_
  exact x_sub [0, 1, 2, 3, 4, 5, 6] rfl (K)
theorem bL_nets_341 {I : Nat → Nat → Int32} {L : Nat → Int64} {Q : Option Value → (Nat → Nat → Int32) → (Nat → Int64) → Prop} {Ln : Nat} {xs : Nat → Int32} {v3 : Int32} {v4 : Int32} {v5 : Int32} {v6 : Int32}  (K : XT (0, 0) Ln xs mL_nets 72 [(0, .ref 0), (1, .ref 49), (2, .ref 1000020), (3, .int v3), (4, .int v4), (5, .int v5), (6, .int (v6 + (1 : Int32)))] [] I L Q) : XT (0, 0) Ln xs mL_nets 341 [(0, .ref 0), (1, .ref 49), (2, .ref 1000020), (3, .int v3), (4, .int v4), (5, .int v5), (6, .int v6)] [] I L Q := by
  refine x_iinc 6 (v6 + (1 : Int32)) [(0, .ref 0), (1, .ref 49), (2, .ref 1000020), (3, .int v3), (4, .int v4), (5, .int v5), (6, .int (v6 + (1 : Int32)))] dL_nets_341 rfl rfl (Nat.le_of_ble_eq_true rfl) rfl ?_
  exact x_goto 72 dL_nets_344 (by decide) (K)
theorem bL_nets_347 {I : Nat → Nat → Int32} {L : Nat → Int64} {Q : Option Value → (Nat → Nat → Int32) → (Nat → Int64) → Prop} {Ln : Nat} {xs : Nat → Int32} {v4 : Int32}  (K : XS mX9_fault 0 [(0, .ref 0)] [] I L (fun r I' L' => XT (0, 0) Ln xs mL_nets 351 [(0, .ref 0), (1, .ref 49), (4, .int v4)] (r.toList ++ []) I' L' Q)) : XT (0, 0) Ln xs mL_nets 347 [(0, .ref 0), (1, .ref 49), (4, .int v4)] [] I L Q := by
  refine x_aload_n 0 dL_nets_347 rfl rfl ?_
  exact xt_callV mX9_fault [] [] 0 9 0 _ rfl dL_nets_348 ml_L_33 qX9_fault rfl ⟨Nat.le_of_ble_eq_true rfl, Nat.le_of_ble_eq_true rfl⟩ ⟨Nat.le_of_ble_eq_true rfl, Nat.le_of_ble_eq_true rfl⟩ ⟨rfl, rfl⟩ (Nat.le_of_ble_eq_true rfl) sh_0 (by decide) rfl (Nat.le_of_ble_eq_true rfl) (K)
theorem bL_nets_351 {I : Nat → Nat → Int32} {L : Nat → Int64} {Q : Option Value → (Nat → Nat → Int32) → (Nat → Int64) → Prop} {Ln : Nat} {xs : Nat → Int32} {v4 : Int32} {s0 : Int32}  (K1 : (¬ s0 = (-1 : Int32)) → XT (0, 0) Ln xs mL_nets 415 [] [] I L Q) (K2 : (s0 = (-1 : Int32)) → XT (0, 0) Ln xs mL_nets 355 [(0, .ref 0), (1, .ref 49), (4, .int v4)] [] I L Q) : XT (0, 0) Ln xs mL_nets 351 [(0, .ref 0), (1, .ref 49), (4, .int v4)] [.int s0] I L Q := by
  refine x_iconst (v := (-1 : Int32)) dL_nets_351 (by decide) ?_
  exact x_icmp_ne 415 dL_nets_352 (by decide) (fun h => x_sub [] rfl (K1 h)) (fun h => K2 h)
theorem bL_nets_355 {I : Nat → Nat → Int32} {L : Nat → Int64} {Q : Option Value → (Nat → Nat → Int32) → (Nat → Int64) → Prop} {Ln : Nat} {xs : Nat → Int32} {v4 : Int32}  (K : XS mX9_tell 0 [(0, .ref 0)] [] I L (fun r I' L' => XT (0, 0) Ln xs mL_nets 359 [(0, .ref 0), (1, .ref 49), (4, .int v4)] (r.toList ++ []) I' L' Q)) : XT (0, 0) Ln xs mL_nets 355 [(0, .ref 0), (1, .ref 49), (4, .int v4)] [] I L Q := by
  refine x_aload_n 0 dL_nets_355 rfl rfl ?_
  exact xt_callV mX9_tell [] [] 0 9 0 _ rfl dL_nets_356 ml_L_36 qX9_tell rfl ⟨Nat.le_of_ble_eq_true rfl, Nat.le_of_ble_eq_true rfl⟩ ⟨Nat.le_of_ble_eq_true rfl, Nat.le_of_ble_eq_true rfl⟩ ⟨rfl, rfl⟩ (Nat.le_of_ble_eq_true rfl) sh_0 (by decide) rfl (Nat.le_of_ble_eq_true rfl) (K)
theorem bL_nets_359 {I : Nat → Nat → Int32} {L : Nat → Int64} {Q : Option Value → (Nat → Nat → Int32) → (Nat → Int64) → Prop} {Ln : Nat} {xs : Nat → Int32} {v4 : Int32} {s0 : Int32}  (K1 : (s0 ≤ 0) → XT (0, 0) Ln xs mL_nets 415 [] [] I L Q) (K2 : (¬ s0 ≤ 0) → XT (0, 0) Ln xs mL_nets 362 [(0, .ref 0), (1, .ref 49), (4, .int v4)] [] I L Q) : XT (0, 0) Ln xs mL_nets 359 [(0, .ref 0), (1, .ref 49), (4, .int v4)] [.int s0] I L Q := by
  exact x_if_le 415 dL_nets_359 (by decide) (fun h => x_sub [] rfl (K1 h)) (fun h => K2 h)
theorem bL_nets_362 {I : Nat → Nat → Int32} {L : Nat → Int64} {Q : Option Value → (Nat → Nat → Int32) → (Nat → Int64) → Prop} {Ln : Nat} {xs : Nat → Int32} {v4 : Int32}  (K : XS mX9_count 0 [(0, .ref 0), (1, .int (0 : Int32))] [] I L (fun r I' L' => XT (0, 0) Ln xs mL_nets 367 [(0, .ref 0), (1, .ref 49), (4, .int v4)] (r.toList ++ []) I' L' Q)) : XT (0, 0) Ln xs mL_nets 362 [(0, .ref 0), (1, .ref 49), (4, .int v4)] [] I L Q := by
  refine x_aload_n 0 dL_nets_362 rfl rfl ?_
  refine x_iconst (v := (0 : Int32)) dL_nets_363 (by decide) ?_
  exact xt_callV mX9_count [.int (0 : Int32)] [] 0 9 1 _ rfl dL_nets_364 ml_L_39 qX9_count rfl ⟨Nat.le_of_ble_eq_true rfl, Nat.le_of_ble_eq_true rfl⟩ ⟨Nat.le_of_ble_eq_true rfl, Nat.le_of_ble_eq_true rfl⟩ ⟨rfl, rfl⟩ (Nat.le_of_ble_eq_true rfl) sh_0 (by decide) rfl (Nat.le_of_ble_eq_true rfl) (K)
theorem bL_nets_367 {I : Nat → Nat → Int32} {L : Nat → Int64} {Q : Option Value → (Nat → Nat → Int32) → (Nat → Int64) → Prop} {Ln : Nat} {xs : Nat → Int32} {v4 : Int32} {s0 : Int32}  (K1 : (¬ s0 = v4) → XT (0, 0) Ln xs mL_nets 415 [] [] I L Q) (K2 : (s0 = v4) → XT (0, 0) Ln xs mL_nets 372 [(0, .ref 0), (1, .ref 49)] [] I L Q) : XT (0, 0) Ln xs mL_nets 367 [(0, .ref 0), (1, .ref 49), (4, .int v4)] [.int s0] I L Q := by
  refine x_iload 2 dL_nets_367 rfl ?_
  exact x_icmp_ne 415 dL_nets_369 (by decide) (fun h => x_sub [] rfl (K1 h)) (fun h => x_sub [0, 1] rfl (K2 h))
theorem bL_nets_372 {I : Nat → Nat → Int32} {L : Nat → Int64} {Q : Option Value → (Nat → Nat → Int32) → (Nat → Int64) → Prop} {Ln : Nat} {xs : Nat → Int32}   (K : XS mX9_count 0 [(0, .ref 0), (1, .int (1 : Int32))] [] I L (fun r I' L' => XT (0, 0) Ln xs mL_nets 377 [(0, .ref 0), (1, .ref 49)] (r.toList ++ []) I' L' Q)) : XT (0, 0) Ln xs mL_nets 372 [(0, .ref 0), (1, .ref 49)] [] I L Q := by
  refine x_aload_n 0 dL_nets_372 rfl rfl ?_
  refine x_iconst (v := (1 : Int32)) dL_nets_373 (by decide) ?_
  exact xt_callV mX9_count [.int (1 : Int32)] [] 0 9 1 _ rfl dL_nets_374 ml_L_39 qX9_count rfl ⟨Nat.le_of_ble_eq_true rfl, Nat.le_of_ble_eq_true rfl⟩ ⟨Nat.le_of_ble_eq_true rfl, Nat.le_of_ble_eq_true rfl⟩ ⟨rfl, rfl⟩ (Nat.le_of_ble_eq_true rfl) sh_0 (by decide) rfl (Nat.le_of_ble_eq_true rfl) (K)
theorem bL_nets_377 {I : Nat → Nat → Int32} {L : Nat → Int64} {Q : Option Value → (Nat → Nat → Int32) → (Nat → Int64) → Prop} {Ln : Nat} {xs : Nat → Int32} {s0 : Int32}  (K1 : (¬ s0 = (I 3136 1)) → XT (0, 0) Ln xs mL_nets 415 [] [] I L Q) (K2 : (s0 = (I 3136 1)) → XT (0, 0) Ln xs mL_nets 383 [(0, .ref 0), (1, .ref 49)] [] I L Q) : XT (0, 0) Ln xs mL_nets 377 [(0, .ref 0), (1, .ref 49)] [.int s0] I L Q := by
  refine x_aload_n 1 dL_nets_377 rfl rfl ?_
  refine x_iconst (v := (1 : Int32)) dL_nets_378 (by decide) ?_
  refine xt_iald 3136 (1) dL_nets_379 sh_49 rfl (by decide) (x_vpin (by decide)) ?_
  exact x_icmp_ne 415 dL_nets_380 (by decide) (fun h => x_sub [] rfl (K1 h)) (fun h => K2 h)
theorem bL_nets_383 {I : Nat → Nat → Int32} {L : Nat → Int64} {Q : Option Value → (Nat → Nat → Int32) → (Nat → Int64) → Prop} {Ln : Nat} {xs : Nat → Int32}   (K : XS mX9_count 0 [(0, .ref 0), (1, .int (2 : Int32))] [] I L (fun r I' L' => XT (0, 0) Ln xs mL_nets 388 [(0, .ref 0), (1, .ref 49)] (r.toList ++ []) I' L' Q)) : XT (0, 0) Ln xs mL_nets 383 [(0, .ref 0), (1, .ref 49)] [] I L Q := by
  refine x_aload_n 0 dL_nets_383 rfl rfl ?_
  refine x_iconst (v := (2 : Int32)) dL_nets_384 (by decide) ?_
  exact xt_callV mX9_count [.int (2 : Int32)] [] 0 9 1 _ rfl dL_nets_385 ml_L_39 qX9_count rfl ⟨Nat.le_of_ble_eq_true rfl, Nat.le_of_ble_eq_true rfl⟩ ⟨Nat.le_of_ble_eq_true rfl, Nat.le_of_ble_eq_true rfl⟩ ⟨rfl, rfl⟩ (Nat.le_of_ble_eq_true rfl) sh_0 (by decide) rfl (Nat.le_of_ble_eq_true rfl) (K)
theorem bL_nets_388 {I : Nat → Nat → Int32} {L : Nat → Int64} {Q : Option Value → (Nat → Nat → Int32) → (Nat → Int64) → Prop} {Ln : Nat} {xs : Nat → Int32} {s0 : Int32}  (K1 : (¬ s0 = (I 3136 1)) → XT (0, 0) Ln xs mL_nets 415 [] [] I L Q) (K2 : (s0 = (I 3136 1)) → XT (0, 0) Ln xs mL_nets 394 [(0, .ref 0)] [] I L Q) : XT (0, 0) Ln xs mL_nets 388 [(0, .ref 0), (1, .ref 49)] [.int s0] I L Q := by
  refine x_aload_n 1 dL_nets_388 rfl rfl ?_
  refine x_iconst (v := (1 : Int32)) dL_nets_389 (by decide) ?_
  refine xt_iald 3136 (1) dL_nets_390 sh_49 rfl (by decide) (x_vpin (by decide)) ?_
  exact x_icmp_ne 415 dL_nets_391 (by decide) (fun h => x_sub [] rfl (K1 h)) (fun h => x_sub [0] rfl (K2 h))
theorem bL_nets_394 {I : Nat → Nat → Int32} {L : Nat → Int64} {Q : Option Value → (Nat → Nat → Int32) → (Nat → Int64) → Prop} {Ln : Nat} {xs : Nat → Int32}   (K : XS mX9_count 0 [(0, .ref 0), (1, .int (3 : Int32))] [] I L (fun r I' L' => XT (0, 0) Ln xs mL_nets 399 [(0, .ref 0)] (r.toList ++ []) I' L' Q)) : XT (0, 0) Ln xs mL_nets 394 [(0, .ref 0)] [] I L Q := by
  refine x_aload_n 0 dL_nets_394 rfl rfl ?_
  refine x_iconst (v := (3 : Int32)) dL_nets_395 (by decide) ?_
  exact xt_callV mX9_count [.int (3 : Int32)] [] 0 9 1 _ rfl dL_nets_396 ml_L_39 qX9_count rfl ⟨Nat.le_of_ble_eq_true rfl, Nat.le_of_ble_eq_true rfl⟩ ⟨Nat.le_of_ble_eq_true rfl, Nat.le_of_ble_eq_true rfl⟩ ⟨rfl, rfl⟩ (Nat.le_of_ble_eq_true rfl) sh_0 (by decide) rfl (Nat.le_of_ble_eq_true rfl) (K)
theorem bL_nets_399 {I : Nat → Nat → Int32} {L : Nat → Int64} {Q : Option Value → (Nat → Nat → Int32) → (Nat → Int64) → Prop} {Ln : Nat} {xs : Nat → Int32} {s0 : Int32}  (K1 : (¬ s0 = 0) → XT (0, 0) Ln xs mL_nets 415 [] [] I L Q) (K2 : (s0 = 0) → XT (0, 0) Ln xs mL_nets 402 [(0, .ref 0)] [] I L Q) : XT (0, 0) Ln xs mL_nets 399 [(0, .ref 0)] [.int s0] I L Q := by
  exact x_if_ne 415 dL_nets_399 (by decide) (fun h => x_sub [] rfl (K1 h)) (fun h => K2 h)
theorem bL_nets_402 {I : Nat → Nat → Int32} {L : Nat → Int64} {Q : Option Value → (Nat → Nat → Int32) → (Nat → Int64) → Prop} {Ln : Nat} {xs : Nat → Int32}   (K : XS mX9_count 0 [(0, .ref 0), (1, .int (12 : Int32))] [] I L (fun r I' L' => XT (0, 0) Ln xs mL_nets 408 [] (r.toList ++ []) I' L' Q)) : XT (0, 0) Ln xs mL_nets 402 [(0, .ref 0)] [] I L Q := by
  refine x_aload_n 0 dL_nets_402 rfl rfl ?_
  refine x_bipush (v := (12 : Int32)) dL_nets_403 (by decide) ?_
  refine x_sub [] rfl ?_
  exact xt_callV mX9_count [.int (12 : Int32)] [] 0 9 1 _ rfl dL_nets_405 ml_L_39 qX9_count rfl ⟨Nat.le_of_ble_eq_true rfl, Nat.le_of_ble_eq_true rfl⟩ ⟨Nat.le_of_ble_eq_true rfl, Nat.le_of_ble_eq_true rfl⟩ ⟨rfl, rfl⟩ (Nat.le_of_ble_eq_true rfl) sh_0 (by decide) rfl (Nat.le_of_ble_eq_true rfl) (K)
theorem bL_nets_408 {I : Nat → Nat → Int32} {L : Nat → Int64} {Q : Option Value → (Nat → Nat → Int32) → (Nat → Int64) → Prop} {Ln : Nat} {xs : Nat → Int32} {s0 : Int32}  (K1 : (¬ s0 = 0) → XT (0, 0) Ln xs mL_nets 415 [] [] I L Q) (K2 : (s0 = 0) → XT (0, 0) Ln xs mL_nets 411 [] [] I L Q) : XT (0, 0) Ln xs mL_nets 408 [] [.int s0] I L Q := by
  exact x_if_ne 415 dL_nets_408 (by decide) (fun h => K1 h) (fun h => K2 h)
theorem bL_nets_411 {I : Nat → Nat → Int32} {L : Nat → Int64} {Q : Option Value → (Nat → Nat → Int32) → (Nat → Int64) → Prop} {Ln : Nat} {xs : Nat → Int32}   (K : XT (0, 0) Ln xs mL_nets 416 [] [.int (1 : Int32)] I L Q) : XT (0, 0) Ln xs mL_nets 411 [] [] I L Q := by
  refine x_iconst (v := (1 : Int32)) dL_nets_411 (by decide) ?_
  exact x_goto 416 dL_nets_412 (by decide) (K)
theorem bL_nets_415 {I : Nat → Nat → Int32} {L : Nat → Int64} {Q : Option Value → (Nat → Nat → Int32) → (Nat → Int64) → Prop} {Ln : Nat} {xs : Nat → Int32}   (K : XT (0, 0) Ln xs mL_nets 416 [] [.int (0 : Int32)] I L Q) : XT (0, 0) Ln xs mL_nets 415 [] [] I L Q := by
  refine x_iconst (v := (0 : Int32)) dL_nets_415 (by decide) ?_
  exact K
theorem bL_nets_416 {I : Nat → Nat → Int32} {L : Nat → Int64} {Q : Option Value → (Nat → Nat → Int32) → (Nat → Int64) → Prop} {Ln : Nat} {xs : Nat → Int32} {s0 : Int32} (hz1 : s0 = 0 ∨ s0 = 1) (K : Q (some (.int s0)) I L) : XT (0, 0) Ln xs mL_nets 416 [] [.int s0] I L Q := by
  exact xt_iret dL_nets_416 rfl (x_nar _ hz1) K
theorem bL_says_0 {I : Nat → Nat → Int32} {L : Nat → Int64} {Q : Option Value → (Nat → Nat → Int32) → (Nat → Int64) → Prop} {v1 : Int32} {v2 : Int32} {v3 : Int32} {v4 : Int32}  (K : XS mX9_write 0 [(0, .ref 0), (1, .int v1)] [] I L (fun r I' L' => XS mL_says 5 [(0, .ref 0), (2, .int v2), (3, .int v3), (4, .int v4)] (r.toList ++ []) I' L' Q)) : XS mL_says 0 [(0, .ref 0), (1, .int v1), (2, .int v2), (3, .int v3), (4, .int v4)] [] I L Q := by
  refine x_aload_n 0 dL_says_0 rfl rfl ?_
  refine x_iload_n 1 dL_says_1 rfl rfl ?_
  refine x_sub [0, 2, 3, 4] rfl ?_
  exact xs_callV mX9_write [.int v1] [] 0 9 1 _ rfl dL_says_2 ml_L_43 qX9_write rfl ⟨Nat.le_of_ble_eq_true rfl, Nat.le_of_ble_eq_true rfl⟩ ⟨rfl, rfl⟩ (Nat.le_of_ble_eq_true rfl) sh_0 (by decide) rfl (Nat.le_of_ble_eq_true rfl) (K)
theorem bL_says_5 {I : Nat → Nat → Int32} {L : Nat → Int64} {Q : Option Value → (Nat → Nat → Int32) → (Nat → Int64) → Prop} {v2 : Int32} {v3 : Int32} {v4 : Int32} {s0 : Int32}  (K : XS mX9_write 0 [(0, .ref 0), (1, .int v2)] [] I L (fun r I' L' => XS mL_says 11 [(0, .ref 0), (3, .int v3), (4, .int v4)] (r.toList ++ []) I' L' Q)) : XS mL_says 5 [(0, .ref 0), (2, .int v2), (3, .int v3), (4, .int v4)] [.int s0] I L Q := by
  refine x_pop dL_says_5 rfl ?_
  refine x_aload_n 0 dL_says_6 rfl rfl ?_
  refine x_iload_n 1 dL_says_7 rfl rfl ?_
  refine x_sub [0, 2, 3] rfl ?_
  exact xs_callV mX9_write [.int v2] [] 0 9 1 _ rfl dL_says_8 ml_L_43 qX9_write rfl ⟨Nat.le_of_ble_eq_true rfl, Nat.le_of_ble_eq_true rfl⟩ ⟨rfl, rfl⟩ (Nat.le_of_ble_eq_true rfl) sh_0 (by decide) rfl (Nat.le_of_ble_eq_true rfl) (K)
theorem bL_says_11 {I : Nat → Nat → Int32} {L : Nat → Int64} {Q : Option Value → (Nat → Nat → Int32) → (Nat → Int64) → Prop} {v3 : Int32} {v4 : Int32} {s0 : Int32}  (K : XS mX9_write 0 [(0, .ref 0), (1, .int v3)] [] I L (fun r I' L' => XS mL_says 17 [(0, .ref 0), (4, .int v4)] (r.toList ++ []) I' L' Q)) : XS mL_says 11 [(0, .ref 0), (3, .int v3), (4, .int v4)] [.int s0] I L Q := by
  refine x_pop dL_says_11 rfl ?_
  refine x_aload_n 0 dL_says_12 rfl rfl ?_
  refine x_iload_n 1 dL_says_13 rfl rfl ?_
  refine x_sub [0, 2] rfl ?_
  exact xs_callV mX9_write [.int v3] [] 0 9 1 _ rfl dL_says_14 ml_L_43 qX9_write rfl ⟨Nat.le_of_ble_eq_true rfl, Nat.le_of_ble_eq_true rfl⟩ ⟨rfl, rfl⟩ (Nat.le_of_ble_eq_true rfl) sh_0 (by decide) rfl (Nat.le_of_ble_eq_true rfl) (K)
theorem bL_says_17 {I : Nat → Nat → Int32} {L : Nat → Int64} {Q : Option Value → (Nat → Nat → Int32) → (Nat → Int64) → Prop} {v4 : Int32} {s0 : Int32}  (K : XS mX9_write 0 [(0, .ref 0), (1, .int v4)] [] I L (fun r I' L' => XS mL_says 24 [] (r.toList ++ []) I' L' Q)) : XS mL_says 17 [(0, .ref 0), (4, .int v4)] [.int s0] I L Q := by
  refine x_pop dL_says_17 rfl ?_
  refine x_aload_n 0 dL_says_18 rfl rfl ?_
  refine x_iload 1 dL_says_19 rfl ?_
  refine x_sub [] rfl ?_
  exact xs_callV mX9_write [.int v4] [] 0 9 1 _ rfl dL_says_21 ml_L_43 qX9_write rfl ⟨Nat.le_of_ble_eq_true rfl, Nat.le_of_ble_eq_true rfl⟩ ⟨rfl, rfl⟩ (Nat.le_of_ble_eq_true rfl) sh_0 (by decide) rfl (Nat.le_of_ble_eq_true rfl) (K)
theorem bL_says_24 {I : Nat → Nat → Int32} {L : Nat → Int64} {Q : Option Value → (Nat → Nat → Int32) → (Nat → Int64) → Prop} {s0 : Int32}  (K : Q none I L) : XS mL_says 24 [] [.int s0] I L Q := by
  refine x_pop dL_says_24 rfl ?_
  exact xs_end dL_says_25 rfl K
theorem bL_linkOf_0 {I : Nat → Nat → Int32} {L : Nat → Int64} {Q : Option Value → (Nat → Nat → Int32) → (Nat → Int64) → Prop} {v1 : Int32} {v2 : Int32}  (K : XS mL_linkOf 2 [(0, .ref 49), (1, .int v1), (2, .int v2), (3, .int (0 : Int32))] [] I L Q) : XS mL_linkOf 0 [(0, .ref 49), (1, .int v1), (2, .int v2)] [] I L Q := by
  refine x_iconst (v := (0 : Int32)) dL_linkOf_0 (by decide) ?_
  refine x_istore_n [(0, .ref 49), (1, .int v1), (2, .int v2), (3, .int (0 : Int32))] dL_linkOf_1 rfl (Nat.le_of_ble_eq_true rfl) rfl ?_
  exact K
theorem bL_linkOf_2 {I : Nat → Nat → Int32} {L : Nat → Int64} {Q : Option Value → (Nat → Nat → Int32) → (Nat → Int64) → Prop} {v1 : Int32} {v2 : Int32} {v3 : Int32}  (K1 : ((I 3136 1) ≤ v3) → XS mL_linkOf 61 [] [] I L Q) (K2 : (¬ (I 3136 1) ≤ v3) → XS mL_linkOf 9 [(0, .ref 49), (1, .int v1), (2, .int v2), (3, .int v3)] [] I L Q) : XS mL_linkOf 2 [(0, .ref 49), (1, .int v1), (2, .int v2), (3, .int v3)] [] I L Q := by
  refine x_iload_n 3 dL_linkOf_2 rfl rfl ?_
  refine x_aload_n 0 dL_linkOf_3 rfl rfl ?_
  refine x_iconst (v := (1 : Int32)) dL_linkOf_4 (by decide) ?_
  refine xs_iald 3136 (1) dL_linkOf_5 sh_49 rfl (by decide) (x_vpin (by decide)) ?_
  exact x_icmp_ge 61 dL_linkOf_6 (by decide) (fun h => x_sub [] rfl (K1 h)) (fun h => K2 h)
theorem bL_linkOf_9 {I : Nat → Nat → Int32} {L : Nat → Int64} {Q : Option Value → (Nat → Nat → Int32) → (Nat → Int64) → Prop} {v1 : Int32} {v2 : Int32} {v3 : Int32} (hb1 : vp_in ((2 : Int32) + ((4 : Int32) * v3)) 64) (K1 : (¬ (I 3136 (((2 : Int32) + ((4 : Int32) * v3)).toNatClampNeg)) = v1) → XS mL_linkOf 31 [(0, .ref 49), (1, .int v1), (2, .int v2), (3, .int v3)] [] I L Q) (K2 : ((I 3136 (((2 : Int32) + ((4 : Int32) * v3)).toNatClampNeg)) = v1) → XS mL_linkOf 20 [(0, .ref 49), (1, .int v1), (2, .int v2), (3, .int v3)] [] I L Q) : XS mL_linkOf 9 [(0, .ref 49), (1, .int v1), (2, .int v2), (3, .int v3)] [] I L Q := by
  refine x_aload_n 0 dL_linkOf_9 rfl rfl ?_
  refine x_iconst (v := (2 : Int32)) dL_linkOf_10 (by decide) ?_
  refine x_iconst (v := (4 : Int32)) dL_linkOf_11 (by decide) ?_
  refine x_iload_n 3 dL_linkOf_12 rfl rfl ?_
  refine x_imul dL_linkOf_13 ?_
  refine x_iadd dL_linkOf_14 ?_
  refine xs_iald 3136 (((2 : Int32) + ((4 : Int32) * v3)).toNatClampNeg) dL_linkOf_15 sh_49 rfl rfl hb1 ?_
  refine x_iload_n 1 dL_linkOf_16 rfl rfl ?_
  exact x_icmp_ne 31 dL_linkOf_17 (by decide) (fun h => K1 h) (fun h => K2 h)
theorem bL_linkOf_20 {I : Nat → Nat → Int32} {L : Nat → Int64} {Q : Option Value → (Nat → Nat → Int32) → (Nat → Int64) → Prop} {v1 : Int32} {v2 : Int32} {v3 : Int32} (hb1 : vp_in ((3 : Int32) + ((4 : Int32) * v3)) 64) (K1 : ((I 3136 (((3 : Int32) + ((4 : Int32) * v3)).toNatClampNeg)) = v2) → XS mL_linkOf 53 [(3, .int v3)] [] I L Q) (K2 : (¬ (I 3136 (((3 : Int32) + ((4 : Int32) * v3)).toNatClampNeg)) = v2) → XS mL_linkOf 31 [(0, .ref 49), (1, .int v1), (2, .int v2), (3, .int v3)] [] I L Q) : XS mL_linkOf 20 [(0, .ref 49), (1, .int v1), (2, .int v2), (3, .int v3)] [] I L Q := by
  refine x_aload_n 0 dL_linkOf_20 rfl rfl ?_
  refine x_iconst (v := (3 : Int32)) dL_linkOf_21 (by decide) ?_
  refine x_iconst (v := (4 : Int32)) dL_linkOf_22 (by decide) ?_
  refine x_iload_n 3 dL_linkOf_23 rfl rfl ?_
  refine x_imul dL_linkOf_24 ?_
  refine x_iadd dL_linkOf_25 ?_
  refine xs_iald 3136 (((3 : Int32) + ((4 : Int32) * v3)).toNatClampNeg) dL_linkOf_26 sh_49 rfl rfl hb1 ?_
  refine x_iload_n 2 dL_linkOf_27 rfl rfl ?_
  exact x_icmp_eq 53 dL_linkOf_28 (by decide) (fun h => x_sub [3] rfl (K1 h)) (fun h => K2 h)
theorem bL_linkOf_31 {I : Nat → Nat → Int32} {L : Nat → Int64} {Q : Option Value → (Nat → Nat → Int32) → (Nat → Int64) → Prop} {v1 : Int32} {v2 : Int32} {v3 : Int32} (hb1 : vp_in ((2 : Int32) + ((4 : Int32) * v3)) 64) (K1 : (¬ (I 3136 (((2 : Int32) + ((4 : Int32) * v3)).toNatClampNeg)) = v2) → XS mL_linkOf 55 [(0, .ref 49), (1, .int v1), (2, .int v2), (3, .int v3)] [] I L Q) (K2 : ((I 3136 (((2 : Int32) + ((4 : Int32) * v3)).toNatClampNeg)) = v2) → XS mL_linkOf 42 [(0, .ref 49), (1, .int v1), (2, .int v2), (3, .int v3)] [] I L Q) : XS mL_linkOf 31 [(0, .ref 49), (1, .int v1), (2, .int v2), (3, .int v3)] [] I L Q := by
  refine x_aload_n 0 dL_linkOf_31 rfl rfl ?_
  refine x_iconst (v := (2 : Int32)) dL_linkOf_32 (by decide) ?_
  refine x_iconst (v := (4 : Int32)) dL_linkOf_33 (by decide) ?_
  refine x_iload_n 3 dL_linkOf_34 rfl rfl ?_
  refine x_imul dL_linkOf_35 ?_
  refine x_iadd dL_linkOf_36 ?_
  refine xs_iald 3136 (((2 : Int32) + ((4 : Int32) * v3)).toNatClampNeg) dL_linkOf_37 sh_49 rfl rfl hb1 ?_
  refine x_iload_n 2 dL_linkOf_38 rfl rfl ?_
  exact x_icmp_ne 55 dL_linkOf_39 (by decide) (fun h => K1 h) (fun h => K2 h)
theorem bL_linkOf_42 {I : Nat → Nat → Int32} {L : Nat → Int64} {Q : Option Value → (Nat → Nat → Int32) → (Nat → Int64) → Prop} {v1 : Int32} {v2 : Int32} {v3 : Int32} (hb1 : vp_in ((3 : Int32) + ((4 : Int32) * v3)) 64) (K1 : (¬ (I 3136 (((3 : Int32) + ((4 : Int32) * v3)).toNatClampNeg)) = v1) → XS mL_linkOf 55 [(0, .ref 49), (1, .int v1), (2, .int v2), (3, .int v3)] [] I L Q) (K2 : ((I 3136 (((3 : Int32) + ((4 : Int32) * v3)).toNatClampNeg)) = v1) → XS mL_linkOf 53 [(3, .int v3)] [] I L Q) : XS mL_linkOf 42 [(0, .ref 49), (1, .int v1), (2, .int v2), (3, .int v3)] [] I L Q := by
  refine x_aload_n 0 dL_linkOf_42 rfl rfl ?_
  refine x_iconst (v := (3 : Int32)) dL_linkOf_43 (by decide) ?_
  refine x_iconst (v := (4 : Int32)) dL_linkOf_44 (by decide) ?_
  refine x_iload_n 3 dL_linkOf_45 rfl rfl ?_
  refine x_imul dL_linkOf_46 ?_
  refine x_iadd dL_linkOf_47 ?_
  refine xs_iald 3136 (((3 : Int32) + ((4 : Int32) * v3)).toNatClampNeg) dL_linkOf_48 sh_49 rfl rfl hb1 ?_
  refine x_iload_n 1 dL_linkOf_49 rfl rfl ?_
  exact x_icmp_ne 55 dL_linkOf_50 (by decide) (fun h => K1 h) (fun h => x_sub [3] rfl (K2 h))
theorem bL_linkOf_53 {I : Nat → Nat → Int32} {L : Nat → Int64} {Q : Option Value → (Nat → Nat → Int32) → (Nat → Int64) → Prop} {v3 : Int32}  (K : Q (some (.int v3)) I L) : XS mL_linkOf 53 [(3, .int v3)] [] I L Q := by
  refine x_iload_n 0 dL_linkOf_53 rfl rfl ?_
  exact xs_iret dL_linkOf_54 rfl rfl K
theorem bL_linkOf_55 {I : Nat → Nat → Int32} {L : Nat → Int64} {Q : Option Value → (Nat → Nat → Int32) → (Nat → Int64) → Prop} {v1 : Int32} {v2 : Int32} {v3 : Int32}  (K : XS mL_linkOf 2 [(0, .ref 49), (1, .int v1), (2, .int v2), (3, .int (v3 + (1 : Int32)))] [] I L Q) : XS mL_linkOf 55 [(0, .ref 49), (1, .int v1), (2, .int v2), (3, .int v3)] [] I L Q := by
  refine x_iinc 3 (v3 + (1 : Int32)) [(0, .ref 49), (1, .int v1), (2, .int v2), (3, .int (v3 + (1 : Int32)))] dL_linkOf_55 rfl rfl (Nat.le_of_ble_eq_true rfl) rfl ?_
  exact x_goto 2 dL_linkOf_58 (by decide) (K)
theorem bL_linkOf_61 {I : Nat → Nat → Int32} {L : Nat → Int64} {Q : Option Value → (Nat → Nat → Int32) → (Nat → Int64) → Prop}   (K : Q (some (.int (-1 : Int32))) I L) : XS mL_linkOf 61 [] [] I L Q := by
  refine x_iconst (v := (-1 : Int32)) dL_linkOf_61 (by decide) ?_
  exact xs_iret dL_linkOf_62 rfl rfl K
theorem bL_whole_0 {I : Nat → Nat → Int32} {L : Nat → Int64} {Q : Option Value → (Nat → Nat → Int32) → (Nat → Int64) → Prop}   (K : XS mL_whole 6 [(0, .ref 0), (1, .long (31 : Int64)), (3, .int (0 : Int32))] [] I L Q) : XS mL_whole 0 [(0, .ref 0)] [] I L Q := by
  refine x_ldc2 dL_whole_0 ct_L_50 ?_
  refine x_lstore_n [(0, .ref 0), (1, .long (31 : Int64))] dL_whole_3 rfl (Nat.le_of_ble_eq_true rfl) rfl ?_
  refine x_iconst (v := (0 : Int32)) dL_whole_4 (by decide) ?_
  refine x_istore_n [(0, .ref 0), (1, .long (31 : Int64)), (3, .int (0 : Int32))] dL_whole_5 rfl (Nat.le_of_ble_eq_true rfl) rfl ?_
  exact K
theorem bL_whole_6 {I : Nat → Nat → Int32} {L : Nat → Int64} {Q : Option Value → (Nat → Nat → Int32) → (Nat → Int64) → Prop} {v1 : Int64} {v3 : Int32}  (K1 : ((11 : Int32) ≤ v3) → XS mL_whole 31 [(0, .ref 0), (1, .long v1)] [] I L Q) (K2 : (¬ (11 : Int32) ≤ v3) → XS mL_whole 12 [(0, .ref 0), (1, .long v1), (3, .int v3)] [] I L Q) : XS mL_whole 6 [(0, .ref 0), (1, .long v1), (3, .int v3)] [] I L Q := by
  refine x_iload_n 2 dL_whole_6 rfl rfl ?_
  refine x_bipush (v := (11 : Int32)) dL_whole_7 (by decide) ?_
  exact x_icmp_ge 31 dL_whole_9 (by decide) (fun h => x_sub [0, 1] rfl (K1 h)) (fun h => K2 h)
theorem bL_whole_12 {I : Nat → Nat → Int32} {L : Nat → Int64} {Q : Option Value → (Nat → Nat → Int32) → (Nat → Int64) → Prop} {v1 : Int64} {v3 : Int32}  (K : XS mX9_count 0 [(0, .ref 0), (1, .int v3)] [] I L (fun r I' L' => XS mL_whole 22 [(0, .ref 0), (3, .int v3)] (r.toList ++ [.long ((31 : Int64) * v1)]) I' L' Q)) : XS mL_whole 12 [(0, .ref 0), (1, .long v1), (3, .int v3)] [] I L Q := by
  refine x_ldc2 dL_whole_12 ct_L_50 ?_
  refine x_lload_n 1 dL_whole_15 rfl rfl ?_
  refine x_lmul dL_whole_16 ?_
  refine x_aload_n 0 dL_whole_17 rfl rfl ?_
  refine x_iload_n 2 dL_whole_18 rfl rfl ?_
  refine x_sub [0, 2] rfl ?_
  exact xs_callV mX9_count [.int v3] [.long ((31 : Int64) * v1)] 0 9 1 _ rfl dL_whole_19 ml_L_39 qX9_count rfl ⟨Nat.le_of_ble_eq_true rfl, Nat.le_of_ble_eq_true rfl⟩ ⟨rfl, rfl⟩ (Nat.le_of_ble_eq_true rfl) sh_0 (by decide) rfl (Nat.le_of_ble_eq_true rfl) (K)
theorem bL_whole_22 {I : Nat → Nat → Int32} {L : Nat → Int64} {Q : Option Value → (Nat → Nat → Int32) → (Nat → Int64) → Prop} {v3 : Int32} {s0 : Int64} {s1 : Int32}  (K : XS mL_whole 6 [(0, .ref 0), (1, .long (s0 + s1.toInt64)), (3, .int (v3 + (1 : Int32)))] [] I L Q) : XS mL_whole 22 [(0, .ref 0), (3, .int v3)] [.int s1, .long s0] I L Q := by
  refine x_i2l dL_whole_22 ?_
  refine x_ladd dL_whole_23 ?_
  refine x_lstore_n [(0, .ref 0), (1, .long (s0 + s1.toInt64)), (3, .int v3)] dL_whole_24 rfl (Nat.le_of_ble_eq_true rfl) rfl ?_
  refine x_iinc 2 (v3 + (1 : Int32)) [(0, .ref 0), (1, .long (s0 + s1.toInt64)), (3, .int (v3 + (1 : Int32)))] dL_whole_25 rfl rfl (Nat.le_of_ble_eq_true rfl) rfl ?_
  exact x_goto 6 dL_whole_28 (by decide) (K)
theorem bL_whole_31 {I : Nat → Nat → Int32} {L : Nat → Int64} {Q : Option Value → (Nat → Nat → Int32) → (Nat → Int64) → Prop} {v1 : Int64}  (K : XS mL_whole 33 [(0, .ref 0), (1, .long v1), (3, .int (0 : Int32))] [] I L Q) : XS mL_whole 31 [(0, .ref 0), (1, .long v1)] [] I L Q := by
  refine x_iconst (v := (0 : Int32)) dL_whole_31 (by decide) ?_
  refine x_istore_n [(0, .ref 0), (1, .long v1), (3, .int (0 : Int32))] dL_whole_32 rfl (Nat.le_of_ble_eq_true rfl) rfl ?_
  exact K
theorem bL_whole_33 {I : Nat → Nat → Int32} {L : Nat → Int64} {Q : Option Value → (Nat → Nat → Int32) → (Nat → Int64) → Prop} {v1 : Int64} {v3 : Int32}  (K : XS mX9_count 0 [(0, .ref 0), (1, .int (1 : Int32))] [] I L (fun r I' L' => XS mL_whole 39 [(0, .ref 0), (1, .long v1), (3, .int v3)] (r.toList ++ [.int v3]) I' L' Q)) : XS mL_whole 33 [(0, .ref 0), (1, .long v1), (3, .int v3)] [] I L Q := by
  refine x_iload_n 2 dL_whole_33 rfl rfl ?_
  refine x_aload_n 0 dL_whole_34 rfl rfl ?_
  refine x_iconst (v := (1 : Int32)) dL_whole_35 (by decide) ?_
  exact xs_callV mX9_count [.int (1 : Int32)] [.int v3] 0 9 1 _ rfl dL_whole_36 ml_L_39 qX9_count rfl ⟨Nat.le_of_ble_eq_true rfl, Nat.le_of_ble_eq_true rfl⟩ ⟨rfl, rfl⟩ (Nat.le_of_ble_eq_true rfl) sh_0 (by decide) rfl (Nat.le_of_ble_eq_true rfl) (K)
theorem bL_whole_39 {I : Nat → Nat → Int32} {L : Nat → Int64} {Q : Option Value → (Nat → Nat → Int32) → (Nat → Int64) → Prop} {v1 : Int64} {v3 : Int32} {s0 : Int32} {s1 : Int32}  (K1 : (s1 ≤ s0) → XS mL_whole 79 [(0, .ref 0), (1, .long v1)] [] I L Q) (K2 : (¬ s1 ≤ s0) → XS mL_whole 42 [(0, .ref 0), (1, .long v1), (3, .int v3)] [] I L Q) : XS mL_whole 39 [(0, .ref 0), (1, .long v1), (3, .int v3)] [.int s1, .int s0] I L Q := by
  exact x_icmp_ge 79 dL_whole_39 (by decide) (fun h => x_sub [0, 1] rfl (K1 h)) (fun h => K2 h)
theorem bL_whole_42 {I : Nat → Nat → Int32} {L : Nat → Int64} {Q : Option Value → (Nat → Nat → Int32) → (Nat → Int64) → Prop} {v1 : Int64} {v3 : Int32}  (K : XS mL_whole 45 [(0, .ref 0), (1, .long v1), (3, .int v3), (4, .int (0 : Int32))] [] I L Q) : XS mL_whole 42 [(0, .ref 0), (1, .long v1), (3, .int v3)] [] I L Q := by
  refine x_iconst (v := (0 : Int32)) dL_whole_42 (by decide) ?_
  refine x_istore [(0, .ref 0), (1, .long v1), (3, .int v3), (4, .int (0 : Int32))] dL_whole_43 (Nat.le_of_ble_eq_true rfl) rfl ?_
  exact K
theorem bL_whole_45 {I : Nat → Nat → Int32} {L : Nat → Int64} {Q : Option Value → (Nat → Nat → Int32) → (Nat → Int64) → Prop} {v1 : Int64} {v3 : Int32} {v4 : Int32}  (K1 : ((6 : Int32) ≤ v4) → XS mL_whole 73 [(0, .ref 0), (1, .long v1), (3, .int v3)] [] I L Q) (K2 : (¬ (6 : Int32) ≤ v4) → XS mL_whole 52 [(0, .ref 0), (1, .long v1), (3, .int v3), (4, .int v4)] [] I L Q) : XS mL_whole 45 [(0, .ref 0), (1, .long v1), (3, .int v3), (4, .int v4)] [] I L Q := by
  refine x_iload 3 dL_whole_45 rfl ?_
  refine x_bipush (v := (6 : Int32)) dL_whole_47 (by decide) ?_
  exact x_icmp_ge 73 dL_whole_49 (by decide) (fun h => x_sub [0, 1, 2] rfl (K1 h)) (fun h => K2 h)
theorem bL_whole_52 {I : Nat → Nat → Int32} {L : Nat → Int64} {Q : Option Value → (Nat → Nat → Int32) → (Nat → Int64) → Prop} {v1 : Int64} {v3 : Int32} {v4 : Int32}  (K : XS mX9_link 0 [(0, .ref 0), (1, .int v3), (2, .int v4)] [] I L (fun r I' L' => XS mL_whole 64 [(0, .ref 0), (3, .int v3), (4, .int v4)] (r.toList ++ [.long ((31 : Int64) * v1)]) I' L' Q)) : XS mL_whole 52 [(0, .ref 0), (1, .long v1), (3, .int v3), (4, .int v4)] [] I L Q := by
  refine x_ldc2 dL_whole_52 ct_L_50 ?_
  refine x_lload_n 1 dL_whole_55 rfl rfl ?_
  refine x_lmul dL_whole_56 ?_
  refine x_aload_n 0 dL_whole_57 rfl rfl ?_
  refine x_iload_n 2 dL_whole_58 rfl rfl ?_
  refine x_iload 3 dL_whole_59 rfl ?_
  refine x_sub [0, 2, 3] rfl ?_
  exact xs_callV mX9_link [.int v3, .int v4] [.long ((31 : Int64) * v1)] 0 9 2 _ rfl dL_whole_61 ml_L_52 qX9_link rfl ⟨Nat.le_of_ble_eq_true rfl, Nat.le_of_ble_eq_true rfl⟩ ⟨rfl, rfl⟩ (Nat.le_of_ble_eq_true rfl) sh_0 (by decide) rfl (Nat.le_of_ble_eq_true rfl) (K)
theorem bL_whole_64 {I : Nat → Nat → Int32} {L : Nat → Int64} {Q : Option Value → (Nat → Nat → Int32) → (Nat → Int64) → Prop} {v3 : Int32} {v4 : Int32} {s0 : Int64} {s1 : Int32}  (K : XS mL_whole 45 [(0, .ref 0), (1, .long (s0 + s1.toInt64)), (3, .int v3), (4, .int (v4 + (1 : Int32)))] [] I L Q) : XS mL_whole 64 [(0, .ref 0), (3, .int v3), (4, .int v4)] [.int s1, .long s0] I L Q := by
  refine x_i2l dL_whole_64 ?_
  refine x_ladd dL_whole_65 ?_
  refine x_lstore_n [(0, .ref 0), (1, .long (s0 + s1.toInt64)), (3, .int v3), (4, .int v4)] dL_whole_66 rfl (Nat.le_of_ble_eq_true rfl) rfl ?_
  refine x_iinc 3 (v4 + (1 : Int32)) [(0, .ref 0), (1, .long (s0 + s1.toInt64)), (3, .int v3), (4, .int (v4 + (1 : Int32)))] dL_whole_67 rfl rfl (Nat.le_of_ble_eq_true rfl) rfl ?_
  exact x_goto 45 dL_whole_70 (by decide) (K)
theorem bL_whole_73 {I : Nat → Nat → Int32} {L : Nat → Int64} {Q : Option Value → (Nat → Nat → Int32) → (Nat → Int64) → Prop} {v1 : Int64} {v3 : Int32}  (K : XS mL_whole 33 [(0, .ref 0), (1, .long v1), (3, .int (v3 + (1 : Int32)))] [] I L Q) : XS mL_whole 73 [(0, .ref 0), (1, .long v1), (3, .int v3)] [] I L Q := by
  refine x_iinc 2 (v3 + (1 : Int32)) [(0, .ref 0), (1, .long v1), (3, .int (v3 + (1 : Int32)))] dL_whole_73 rfl rfl (Nat.le_of_ble_eq_true rfl) rfl ?_
  exact x_goto 33 dL_whole_76 (by decide) (K)
theorem bL_whole_79 {I : Nat → Nat → Int32} {L : Nat → Int64} {Q : Option Value → (Nat → Nat → Int32) → (Nat → Int64) → Prop} {v1 : Int64}  (K : XS mL_whole 81 [(0, .ref 0), (1, .long v1), (3, .int (0 : Int32))] [] I L Q) : XS mL_whole 79 [(0, .ref 0), (1, .long v1)] [] I L Q := by
  refine x_iconst (v := (0 : Int32)) dL_whole_79 (by decide) ?_
  refine x_istore_n [(0, .ref 0), (1, .long v1), (3, .int (0 : Int32))] dL_whole_80 rfl (Nat.le_of_ble_eq_true rfl) rfl ?_
  exact K
theorem bL_whole_81 {I : Nat → Nat → Int32} {L : Nat → Int64} {Q : Option Value → (Nat → Nat → Int32) → (Nat → Int64) → Prop} {v1 : Int64} {v3 : Int32}  (K : XS mX9_count 0 [(0, .ref 0), (1, .int (0 : Int32))] [] I L (fun r I' L' => XS mL_whole 87 [(0, .ref 0), (1, .long v1), (3, .int v3)] (r.toList ++ [.int v3]) I' L' Q)) : XS mL_whole 81 [(0, .ref 0), (1, .long v1), (3, .int v3)] [] I L Q := by
  refine x_iload_n 2 dL_whole_81 rfl rfl ?_
  refine x_aload_n 0 dL_whole_82 rfl rfl ?_
  refine x_iconst (v := (0 : Int32)) dL_whole_83 (by decide) ?_
  exact xs_callV mX9_count [.int (0 : Int32)] [.int v3] 0 9 1 _ rfl dL_whole_84 ml_L_39 qX9_count rfl ⟨Nat.le_of_ble_eq_true rfl, Nat.le_of_ble_eq_true rfl⟩ ⟨rfl, rfl⟩ (Nat.le_of_ble_eq_true rfl) sh_0 (by decide) rfl (Nat.le_of_ble_eq_true rfl) (K)
theorem bL_whole_87 {I : Nat → Nat → Int32} {L : Nat → Int64} {Q : Option Value → (Nat → Nat → Int32) → (Nat → Int64) → Prop} {v1 : Int64} {v3 : Int32} {s0 : Int32} {s1 : Int32}  (K1 : (s1 ≤ s0) → XS mL_whole 109 [(0, .ref 0), (1, .long v1)] [] I L Q) (K2 : (¬ s1 ≤ s0) → XS mL_whole 90 [(0, .ref 0), (1, .long v1), (3, .int v3)] [] I L Q) : XS mL_whole 87 [(0, .ref 0), (1, .long v1), (3, .int v3)] [.int s1, .int s0] I L Q := by
  exact x_icmp_ge 109 dL_whole_87 (by decide) (fun h => x_sub [0, 1] rfl (K1 h)) (fun h => K2 h)
theorem bL_whole_90 {I : Nat → Nat → Int32} {L : Nat → Int64} {Q : Option Value → (Nat → Nat → Int32) → (Nat → Int64) → Prop} {v1 : Int64} {v3 : Int32}  (K : XS mX9_seen 0 [(0, .ref 0), (1, .int v3)] [] I L (fun r I' L' => XS mL_whole 100 [(0, .ref 0), (3, .int v3)] (r.toList ++ [.long ((31 : Int64) * v1)]) I' L' Q)) : XS mL_whole 90 [(0, .ref 0), (1, .long v1), (3, .int v3)] [] I L Q := by
  refine x_ldc2 dL_whole_90 ct_L_50 ?_
  refine x_lload_n 1 dL_whole_93 rfl rfl ?_
  refine x_lmul dL_whole_94 ?_
  refine x_aload_n 0 dL_whole_95 rfl rfl ?_
  refine x_iload_n 2 dL_whole_96 rfl rfl ?_
  refine x_sub [0, 2] rfl ?_
  exact xs_callV mX9_seen [.int v3] [.long ((31 : Int64) * v1)] 0 9 1 _ rfl dL_whole_97 ml_L_55 qX9_seen rfl ⟨Nat.le_of_ble_eq_true rfl, Nat.le_of_ble_eq_true rfl⟩ ⟨rfl, rfl⟩ (Nat.le_of_ble_eq_true rfl) sh_0 (by decide) rfl (Nat.le_of_ble_eq_true rfl) (K)
theorem bL_whole_100 {I : Nat → Nat → Int32} {L : Nat → Int64} {Q : Option Value → (Nat → Nat → Int32) → (Nat → Int64) → Prop} {v3 : Int32} {s0 : Int64} {s1 : Int32}  (K : XS mL_whole 81 [(0, .ref 0), (1, .long (s0 + s1.toInt64)), (3, .int (v3 + (1 : Int32)))] [] I L Q) : XS mL_whole 100 [(0, .ref 0), (3, .int v3)] [.int s1, .long s0] I L Q := by
  refine x_i2l dL_whole_100 ?_
  refine x_ladd dL_whole_101 ?_
  refine x_lstore_n [(0, .ref 0), (1, .long (s0 + s1.toInt64)), (3, .int v3)] dL_whole_102 rfl (Nat.le_of_ble_eq_true rfl) rfl ?_
  refine x_iinc 2 (v3 + (1 : Int32)) [(0, .ref 0), (1, .long (s0 + s1.toInt64)), (3, .int (v3 + (1 : Int32)))] dL_whole_103 rfl rfl (Nat.le_of_ble_eq_true rfl) rfl ?_
  exact x_goto 81 dL_whole_106 (by decide) (K)
theorem bL_whole_109 {I : Nat → Nat → Int32} {L : Nat → Int64} {Q : Option Value → (Nat → Nat → Int32) → (Nat → Int64) → Prop} {v1 : Int64}  (K : XS mL_whole 111 [(0, .ref 0), (1, .long v1), (3, .int (0 : Int32))] [] I L Q) : XS mL_whole 109 [(0, .ref 0), (1, .long v1)] [] I L Q := by
  refine x_iconst (v := (0 : Int32)) dL_whole_109 (by decide) ?_
  refine x_istore_n [(0, .ref 0), (1, .long v1), (3, .int (0 : Int32))] dL_whole_110 rfl (Nat.le_of_ble_eq_true rfl) rfl ?_
  exact K
theorem bL_whole_111 {I : Nat → Nat → Int32} {L : Nat → Int64} {Q : Option Value → (Nat → Nat → Int32) → (Nat → Int64) → Prop} {v1 : Int64} {v3 : Int32}  (K : XS mX9_count 0 [(0, .ref 0), (1, .int (4 : Int32))] [] I L (fun r I' L' => XS mL_whole 117 [(0, .ref 0), (1, .long v1), (3, .int v3)] (r.toList ++ [.int v3]) I' L' Q)) : XS mL_whole 111 [(0, .ref 0), (1, .long v1), (3, .int v3)] [] I L Q := by
  refine x_iload_n 2 dL_whole_111 rfl rfl ?_
  refine x_aload_n 0 dL_whole_112 rfl rfl ?_
  refine x_iconst (v := (4 : Int32)) dL_whole_113 (by decide) ?_
  exact xs_callV mX9_count [.int (4 : Int32)] [.int v3] 0 9 1 _ rfl dL_whole_114 ml_L_39 qX9_count rfl ⟨Nat.le_of_ble_eq_true rfl, Nat.le_of_ble_eq_true rfl⟩ ⟨rfl, rfl⟩ (Nat.le_of_ble_eq_true rfl) sh_0 (by decide) rfl (Nat.le_of_ble_eq_true rfl) (K)
theorem bL_whole_117 {I : Nat → Nat → Int32} {L : Nat → Int64} {Q : Option Value → (Nat → Nat → Int32) → (Nat → Int64) → Prop} {v1 : Int64} {v3 : Int32} {s0 : Int32} {s1 : Int32}  (K1 : (s1 ≤ s0) → XS mL_whole 152 [(0, .ref 0), (1, .long v1)] [] I L Q) (K2 : (¬ s1 ≤ s0) → XS mL_whole 120 [(0, .ref 0), (1, .long v1), (3, .int v3)] [] I L Q) : XS mL_whole 117 [(0, .ref 0), (1, .long v1), (3, .int v3)] [.int s1, .int s0] I L Q := by
  exact x_icmp_ge 152 dL_whole_117 (by decide) (fun h => x_sub [0, 1] rfl (K1 h)) (fun h => K2 h)
theorem bL_whole_120 {I : Nat → Nat → Int32} {L : Nat → Int64} {Q : Option Value → (Nat → Nat → Int32) → (Nat → Int64) → Prop} {v1 : Int64} {v3 : Int32}  (K : XS mX9_segment 0 [(0, .ref 0), (1, .int v3), (2, .int (0 : Int32))] [] I L (fun r I' L' => XS mL_whole 134 [(0, .ref 0), (3, .int v3)] (r.toList ++ [.long (100 : Int64), .long ((31 : Int64) * v1)]) I' L' Q)) : XS mL_whole 120 [(0, .ref 0), (1, .long v1), (3, .int v3)] [] I L Q := by
  refine x_ldc2 dL_whole_120 ct_L_50 ?_
  refine x_lload_n 1 dL_whole_123 rfl rfl ?_
  refine x_lmul dL_whole_124 ?_
  refine x_ldc2 dL_whole_125 ct_L_58 ?_
  refine x_aload_n 0 dL_whole_128 rfl rfl ?_
  refine x_iload_n 2 dL_whole_129 rfl rfl ?_
  refine x_iconst (v := (0 : Int32)) dL_whole_130 (by decide) ?_
  refine x_sub [0, 2] rfl ?_
  exact xs_callV mX9_segment [.int v3, .int (0 : Int32)] [.long (100 : Int64), .long ((31 : Int64) * v1)] 0 9 2 _ rfl dL_whole_131 ml_L_60 qX9_segment rfl ⟨Nat.le_of_ble_eq_true rfl, Nat.le_of_ble_eq_true rfl⟩ ⟨rfl, rfl⟩ (Nat.le_of_ble_eq_true rfl) sh_0 (by decide) rfl (Nat.le_of_ble_eq_true rfl) (K)
theorem bL_whole_134 {I : Nat → Nat → Int32} {L : Nat → Int64} {Q : Option Value → (Nat → Nat → Int32) → (Nat → Int64) → Prop} {v3 : Int32} {s0 : Int64} {s1 : Int64} {s2 : Int32}  (K : XS mX9_segment 0 [(0, .ref 0), (1, .int v3), (2, .int (1 : Int32))] [] I L (fun r I' L' => XS mL_whole 143 [(0, .ref 0), (3, .int v3)] (r.toList ++ [.long (s0 + (s1 * s2.toInt64))]) I' L' Q)) : XS mL_whole 134 [(0, .ref 0), (3, .int v3)] [.int s2, .long s1, .long s0] I L Q := by
  refine x_i2l dL_whole_134 ?_
  refine x_lmul dL_whole_135 ?_
  refine x_ladd dL_whole_136 ?_
  refine x_aload_n 0 dL_whole_137 rfl rfl ?_
  refine x_iload_n 1 dL_whole_138 rfl rfl ?_
  refine x_iconst (v := (1 : Int32)) dL_whole_139 (by decide) ?_
  exact xs_callV mX9_segment [.int v3, .int (1 : Int32)] [.long (s0 + (s1 * s2.toInt64))] 0 9 2 _ rfl dL_whole_140 ml_L_60 qX9_segment rfl ⟨Nat.le_of_ble_eq_true rfl, Nat.le_of_ble_eq_true rfl⟩ ⟨rfl, rfl⟩ (Nat.le_of_ble_eq_true rfl) sh_0 (by decide) rfl (Nat.le_of_ble_eq_true rfl) (K)
theorem bL_whole_143 {I : Nat → Nat → Int32} {L : Nat → Int64} {Q : Option Value → (Nat → Nat → Int32) → (Nat → Int64) → Prop} {v3 : Int32} {s0 : Int64} {s1 : Int32}  (K : XS mL_whole 111 [(0, .ref 0), (1, .long (s0 + s1.toInt64)), (3, .int (v3 + (1 : Int32)))] [] I L Q) : XS mL_whole 143 [(0, .ref 0), (3, .int v3)] [.int s1, .long s0] I L Q := by
  refine x_i2l dL_whole_143 ?_
  refine x_ladd dL_whole_144 ?_
  refine x_lstore_n [(0, .ref 0), (1, .long (s0 + s1.toInt64)), (3, .int v3)] dL_whole_145 rfl (Nat.le_of_ble_eq_true rfl) rfl ?_
  refine x_iinc 2 (v3 + (1 : Int32)) [(0, .ref 0), (1, .long (s0 + s1.toInt64)), (3, .int (v3 + (1 : Int32)))] dL_whole_146 rfl rfl (Nat.le_of_ble_eq_true rfl) rfl ?_
  exact x_goto 111 dL_whole_149 (by decide) (K)
theorem bL_whole_152 {I : Nat → Nat → Int32} {L : Nat → Int64} {Q : Option Value → (Nat → Nat → Int32) → (Nat → Int64) → Prop} {v1 : Int64}  (K : XS mX9_brief 0 [(0, .ref 0), (1, .int (0 : Int32))] [] I L (fun r I' L' => XS mL_whole 162 [(0, .ref 0)] (r.toList ++ [.long ((31 : Int64) * v1)]) I' L' Q)) : XS mL_whole 152 [(0, .ref 0), (1, .long v1)] [] I L Q := by
  refine x_ldc2 dL_whole_152 ct_L_50 ?_
  refine x_lload_n 1 dL_whole_155 rfl rfl ?_
  refine x_lmul dL_whole_156 ?_
  refine x_aload_n 0 dL_whole_157 rfl rfl ?_
  refine x_iconst (v := (0 : Int32)) dL_whole_158 (by decide) ?_
  refine x_sub [0] rfl ?_
  exact xs_callV mX9_brief [.int (0 : Int32)] [.long ((31 : Int64) * v1)] 0 9 1 _ rfl dL_whole_159 ml_L_63 qX9_brief rfl ⟨Nat.le_of_ble_eq_true rfl, Nat.le_of_ble_eq_true rfl⟩ ⟨rfl, rfl⟩ (Nat.le_of_ble_eq_true rfl) sh_0 (by decide) rfl (Nat.le_of_ble_eq_true rfl) (K)
theorem bL_whole_162 {I : Nat → Nat → Int32} {L : Nat → Int64} {Q : Option Value → (Nat → Nat → Int32) → (Nat → Int64) → Prop} {s0 : Int64} {s1 : Int32}  (K : XS mX9_brief 0 [(0, .ref 0), (1, .int (-1 : Int32))] [] I L (fun r I' L' => XS mL_whole 172 [] (r.toList ++ [.long (1000 : Int64), .long (s0 + s1.toInt64)]) I' L' Q)) : XS mL_whole 162 [(0, .ref 0)] [.int s1, .long s0] I L Q := by
  refine x_i2l dL_whole_162 ?_
  refine x_ladd dL_whole_163 ?_
  refine x_ldc2 dL_whole_164 ct_L_66 ?_
  refine x_aload_n 0 dL_whole_167 rfl rfl ?_
  refine x_iconst (v := (-1 : Int32)) dL_whole_168 (by decide) ?_
  refine x_sub [] rfl ?_
  exact xs_callV mX9_brief [.int (-1 : Int32)] [.long (1000 : Int64), .long (s0 + s1.toInt64)] 0 9 1 _ rfl dL_whole_169 ml_L_63 qX9_brief rfl ⟨Nat.le_of_ble_eq_true rfl, Nat.le_of_ble_eq_true rfl⟩ ⟨rfl, rfl⟩ (Nat.le_of_ble_eq_true rfl) sh_0 (by decide) rfl (Nat.le_of_ble_eq_true rfl) (K)
theorem bL_whole_172 {I : Nat → Nat → Int32} {L : Nat → Int64} {Q : Option Value → (Nat → Nat → Int32) → (Nat → Int64) → Prop} {s0 : Int64} {s1 : Int64} {s2 : Int32}  (K : Q (some (.long (s0 + (s1 * s2.toInt64)))) I L) : XS mL_whole 172 [] [.int s2, .long s1, .long s0] I L Q := by
  refine x_i2l dL_whole_172 ?_
  refine x_lmul dL_whole_173 ?_
  refine x_ladd dL_whole_174 ?_
  exact xs_lret dL_whole_175 rfl K
theorem bL_faults_0 {I : Nat → Nat → Int32} {L : Nat → Int64} {Q : Option Value → (Nat → Nat → Int32) → (Nat → Int64) → Prop}   (K : XS mL_whole 0 [(0, .ref 0)] [] I L (fun r I' L' => XS mL_faults 4 [(0, .ref 0)] (r.toList ++ []) I' L' Q)) : XS mL_faults 0 [(0, .ref 0)] [] I L Q := by
  refine x_aload_n 0 dL_faults_0 rfl rfl ?_
  exact xs_callS mL_whole [.ref 0] [] 1 _ rfl dL_faults_1 ml_L_68 qL_whole rfl ⟨Nat.le_of_ble_eq_true rfl, Nat.le_of_ble_eq_true rfl⟩ ⟨rfl, rfl⟩ (Nat.le_of_ble_eq_true rfl) (Nat.le_of_ble_eq_true rfl) (K)
theorem bL_faults_4 {I : Nat → Nat → Int32} {L : Nat → Int64} {Q : Option Value → (Nat → Nat → Int32) → (Nat → Int64) → Prop} {s0 : Int64}  (K : XS mX9_count 0 [(0, .ref 0), (1, .int (11 : Int32))] [] I L (fun r I' L' => XS mL_faults 11 [(0, .ref 0), (1, .long s0)] (r.toList ++ []) I' L' Q)) : XS mL_faults 4 [(0, .ref 0)] [.long s0] I L Q := by
  refine x_lstore_n [(0, .ref 0), (1, .long s0)] dL_faults_4 rfl (Nat.le_of_ble_eq_true rfl) rfl ?_
  refine x_aload_n 0 dL_faults_5 rfl rfl ?_
  refine x_bipush (v := (11 : Int32)) dL_faults_6 (by decide) ?_
  exact xs_callV mX9_count [.int (11 : Int32)] [] 0 9 1 _ rfl dL_faults_8 ml_L_39 qX9_count rfl ⟨Nat.le_of_ble_eq_true rfl, Nat.le_of_ble_eq_true rfl⟩ ⟨rfl, rfl⟩ (Nat.le_of_ble_eq_true rfl) sh_0 (by decide) rfl (Nat.le_of_ble_eq_true rfl) (K)
theorem bL_faults_11 {I : Nat → Nat → Int32} {L : Nat → Int64} {Q : Option Value → (Nat → Nat → Int32) → (Nat → Int64) → Prop} {v1 : Int64} {s0 : Int32}  (K : XS mX9_erase 0 [(0, .ref 0)] [] I L (fun r I' L' => XS mL_faults 16 [(0, .ref 0), (1, .long v1), (3, .int s0)] (r.toList ++ []) I' L' Q)) : XS mL_faults 11 [(0, .ref 0), (1, .long v1)] [.int s0] I L Q := by
  refine x_istore_n [(0, .ref 0), (1, .long v1), (3, .int s0)] dL_faults_11 rfl (Nat.le_of_ble_eq_true rfl) rfl ?_
  refine x_aload_n 0 dL_faults_12 rfl rfl ?_
  exact xs_callV mX9_erase [] [] 0 9 0 _ rfl dL_faults_13 ml_L_19 qX9_erase rfl ⟨Nat.le_of_ble_eq_true rfl, Nat.le_of_ble_eq_true rfl⟩ ⟨rfl, rfl⟩ (Nat.le_of_ble_eq_true rfl) sh_0 (by decide) rfl (Nat.le_of_ble_eq_true rfl) (K)
theorem bL_faults_16 {I : Nat → Nat → Int32} {L : Nat → Int64} {Q : Option Value → (Nat → Nat → Int32) → (Nat → Int64) → Prop} {v1 : Int64} {v3 : Int32} {s0 : Int32}  (K : XS mX9_fault 0 [(0, .ref 0)] [] I L (fun r I' L' => XS mL_faults 21 [(0, .ref 0), (1, .long v1), (3, .int v3)] (r.toList ++ []) I' L' Q)) : XS mL_faults 16 [(0, .ref 0), (1, .long v1), (3, .int v3)] [.int s0] I L Q := by
  refine x_pop dL_faults_16 rfl ?_
  refine x_aload_n 0 dL_faults_17 rfl rfl ?_
  exact xs_callV mX9_fault [] [] 0 9 0 _ rfl dL_faults_18 ml_L_33 qX9_fault rfl ⟨Nat.le_of_ble_eq_true rfl, Nat.le_of_ble_eq_true rfl⟩ ⟨rfl, rfl⟩ (Nat.le_of_ble_eq_true rfl) sh_0 (by decide) rfl (Nat.le_of_ble_eq_true rfl) (K)
theorem bL_faults_21 {I : Nat → Nat → Int32} {L : Nat → Int64} {Q : Option Value → (Nat → Nat → Int32) → (Nat → Int64) → Prop} {v1 : Int64} {v3 : Int32} {s0 : Int32}  (K1 : (¬ s0 = 0) → XS mL_faults 37 [(0, .ref 0), (1, .long v1), (3, .int v3)] [] I L Q) (K2 : (s0 = 0) → XS mL_faults 24 [(0, .ref 0), (1, .long v1), (3, .int v3)] [] I L Q) : XS mL_faults 21 [(0, .ref 0), (1, .long v1), (3, .int v3)] [.int s0] I L Q := by
  exact x_if_ne 37 dL_faults_21 (by decide) (fun h => K1 h) (fun h => K2 h)
theorem bL_faults_24 {I : Nat → Nat → Int32} {L : Nat → Int64} {Q : Option Value → (Nat → Nat → Int32) → (Nat → Int64) → Prop} {v1 : Int64} {v3 : Int32}  (K : XS mX9_tell 0 [(0, .ref 0)] [] I L (fun r I' L' => XS mL_faults 28 [(0, .ref 0), (1, .long v1), (3, .int v3)] (r.toList ++ []) I' L' Q)) : XS mL_faults 24 [(0, .ref 0), (1, .long v1), (3, .int v3)] [] I L Q := by
  refine x_aload_n 0 dL_faults_24 rfl rfl ?_
  exact xs_callV mX9_tell [] [] 0 9 0 _ rfl dL_faults_25 ml_L_36 qX9_tell rfl ⟨Nat.le_of_ble_eq_true rfl, Nat.le_of_ble_eq_true rfl⟩ ⟨rfl, rfl⟩ (Nat.le_of_ble_eq_true rfl) sh_0 (by decide) rfl (Nat.le_of_ble_eq_true rfl) (K)
theorem bL_faults_28 {I : Nat → Nat → Int32} {L : Nat → Int64} {Q : Option Value → (Nat → Nat → Int32) → (Nat → Int64) → Prop} {v1 : Int64} {v3 : Int32} {s0 : Int32}  (K1 : (¬ s0 = (-4 : Int32)) → XS mL_faults 37 [(0, .ref 0), (1, .long v1), (3, .int v3)] [] I L Q) (K2 : (s0 = (-4 : Int32)) → XS mL_faults 33 [(0, .ref 0), (1, .long v1), (3, .int v3)] [] I L Q) : XS mL_faults 28 [(0, .ref 0), (1, .long v1), (3, .int v3)] [.int s0] I L Q := by
  refine x_bipush (v := (-4 : Int32)) dL_faults_28 (by decide) ?_
  exact x_icmp_ne 37 dL_faults_30 (by decide) (fun h => K1 h) (fun h => K2 h)
theorem bL_faults_33 {I : Nat → Nat → Int32} {L : Nat → Int64} {Q : Option Value → (Nat → Nat → Int32) → (Nat → Int64) → Prop} {v1 : Int64} {v3 : Int32}  (K : XS mL_faults 38 [(0, .ref 0), (1, .long v1), (3, .int v3)] [.int (1 : Int32)] I L Q) : XS mL_faults 33 [(0, .ref 0), (1, .long v1), (3, .int v3)] [] I L Q := by
  refine x_iconst (v := (1 : Int32)) dL_faults_33 (by decide) ?_
  exact x_goto 38 dL_faults_34 (by decide) (K)
theorem bL_faults_37 {I : Nat → Nat → Int32} {L : Nat → Int64} {Q : Option Value → (Nat → Nat → Int32) → (Nat → Int64) → Prop} {v1 : Int64} {v3 : Int32}  (K : XS mL_faults 38 [(0, .ref 0), (1, .long v1), (3, .int v3)] [.int (0 : Int32)] I L Q) : XS mL_faults 37 [(0, .ref 0), (1, .long v1), (3, .int v3)] [] I L Q := by
  refine x_iconst (v := (0 : Int32)) dL_faults_37 (by decide) ?_
  exact K
theorem bL_faults_38 {I : Nat → Nat → Int32} {L : Nat → Int64} {Q : Option Value → (Nat → Nat → Int32) → (Nat → Int64) → Prop} {v1 : Int64} {v3 : Int32} {s0 : Int32}  (K : XS mL_says 0 [(0, .ref 0), (1, .int (110 : Int32)), (2, .int (111 : Int32)), (3, .int (100 : Int32)), (4, .int (101 : Int32))] [] I L (fun r I' L' => XS mL_faults 52 [(0, .ref 0), (1, .long v1), (3, .int v3), (4, .int s0)] (r.toList ++ []) I' L' Q)) : XS mL_faults 38 [(0, .ref 0), (1, .long v1), (3, .int v3)] [.int s0] I L Q := by
  refine x_istore [(0, .ref 0), (1, .long v1), (3, .int v3), (4, .int s0)] dL_faults_38 (Nat.le_of_ble_eq_true rfl) rfl ?_
  refine x_aload_n 0 dL_faults_40 rfl rfl ?_
  refine x_bipush (v := (110 : Int32)) dL_faults_41 (by decide) ?_
  refine x_bipush (v := (111 : Int32)) dL_faults_43 (by decide) ?_
  refine x_bipush (v := (100 : Int32)) dL_faults_45 (by decide) ?_
  refine x_bipush (v := (101 : Int32)) dL_faults_47 (by decide) ?_
  exact xs_callS mL_says [.ref 0, .int (110 : Int32), .int (111 : Int32), .int (100 : Int32), .int (101 : Int32)] [] 5 _ rfl dL_faults_49 ml_L_25 qL_says rfl ⟨Nat.le_of_ble_eq_true rfl, Nat.le_of_ble_eq_true rfl⟩ ⟨rfl, rfl⟩ (Nat.le_of_ble_eq_true rfl) (Nat.le_of_ble_eq_true rfl) (K)
theorem bL_faults_52 {I : Nat → Nat → Int32} {L : Nat → Int64} {Q : Option Value → (Nat → Nat → Int32) → (Nat → Int64) → Prop} {v1 : Int64} {v3 : Int32} {v4 : Int32}  (K : XS mL_says 0 [(0, .ref 0), (1, .int (115 : Int32)), (2, .int (32 : Int32)), (3, .int (49 : Int32)), (4, .int (32 : Int32))] [] I L (fun r I' L' => XS mL_faults 64 [(0, .ref 0), (1, .long v1), (3, .int v3), (4, .int v4)] (r.toList ++ []) I' L' Q)) : XS mL_faults 52 [(0, .ref 0), (1, .long v1), (3, .int v3), (4, .int v4)] [] I L Q := by
  refine x_aload_n 0 dL_faults_52 rfl rfl ?_
  refine x_bipush (v := (115 : Int32)) dL_faults_53 (by decide) ?_
  refine x_bipush (v := (32 : Int32)) dL_faults_55 (by decide) ?_
  refine x_bipush (v := (49 : Int32)) dL_faults_57 (by decide) ?_
  refine x_bipush (v := (32 : Int32)) dL_faults_59 (by decide) ?_
  exact xs_callS mL_says [.ref 0, .int (115 : Int32), .int (32 : Int32), .int (49 : Int32), .int (32 : Int32)] [] 5 _ rfl dL_faults_61 ml_L_25 qL_says rfl ⟨Nat.le_of_ble_eq_true rfl, Nat.le_of_ble_eq_true rfl⟩ ⟨rfl, rfl⟩ (Nat.le_of_ble_eq_true rfl) (Nat.le_of_ble_eq_true rfl) (K)
theorem bL_faults_64 {I : Nat → Nat → Int32} {L : Nat → Int64} {Q : Option Value → (Nat → Nat → Int32) → (Nat → Int64) → Prop} {v1 : Int64} {v3 : Int32} {v4 : Int32}  (K1 : (v4 = 0) → XS mL_faults 91 [(0, .ref 0), (1, .long v1), (3, .int v3)] [] I L Q) (K2 : (¬ v4 = 0) → XS mL_faults 69 [(0, .ref 0), (1, .long v1), (3, .int v3)] [] I L Q) : XS mL_faults 64 [(0, .ref 0), (1, .long v1), (3, .int v3), (4, .int v4)] [] I L Q := by
  refine x_iload 3 dL_faults_64 rfl ?_
  exact x_if_eq 91 dL_faults_66 (by decide) (fun h => x_sub [0, 1, 2] rfl (K1 h)) (fun h => x_sub [0, 1, 2] rfl (K2 h))
theorem bL_faults_69 {I : Nat → Nat → Int32} {L : Nat → Int64} {Q : Option Value → (Nat → Nat → Int32) → (Nat → Int64) → Prop} {v1 : Int64} {v3 : Int32}  (K : XS mX9_fault 0 [(0, .ref 0)] [] I L (fun r I' L' => XS mL_faults 73 [(0, .ref 0), (1, .long v1), (3, .int v3)] (r.toList ++ []) I' L' Q)) : XS mL_faults 69 [(0, .ref 0), (1, .long v1), (3, .int v3)] [] I L Q := by
  refine x_aload_n 0 dL_faults_69 rfl rfl ?_
  exact xs_callV mX9_fault [] [] 0 9 0 _ rfl dL_faults_70 ml_L_33 qX9_fault rfl ⟨Nat.le_of_ble_eq_true rfl, Nat.le_of_ble_eq_true rfl⟩ ⟨rfl, rfl⟩ (Nat.le_of_ble_eq_true rfl) sh_0 (by decide) rfl (Nat.le_of_ble_eq_true rfl) (K)
theorem bL_faults_73 {I : Nat → Nat → Int32} {L : Nat → Int64} {Q : Option Value → (Nat → Nat → Int32) → (Nat → Int64) → Prop} {v1 : Int64} {v3 : Int32} {s0 : Int32}  (K1 : (¬ s0 = (6 : Int32)) → XS mL_faults 91 [(0, .ref 0), (1, .long v1), (3, .int v3)] [] I L Q) (K2 : (s0 = (6 : Int32)) → XS mL_faults 78 [(0, .ref 0), (1, .long v1), (3, .int v3)] [] I L Q) : XS mL_faults 73 [(0, .ref 0), (1, .long v1), (3, .int v3)] [.int s0] I L Q := by
  refine x_bipush (v := (6 : Int32)) dL_faults_73 (by decide) ?_
  exact x_icmp_ne 91 dL_faults_75 (by decide) (fun h => K1 h) (fun h => K2 h)
theorem bL_faults_78 {I : Nat → Nat → Int32} {L : Nat → Int64} {Q : Option Value → (Nat → Nat → Int32) → (Nat → Int64) → Prop} {v1 : Int64} {v3 : Int32}  (K : XS mX9_erase 0 [(0, .ref 0)] [] I L (fun r I' L' => XS mL_faults 82 [(0, .ref 0), (1, .long v1), (3, .int v3)] (r.toList ++ []) I' L' Q)) : XS mL_faults 78 [(0, .ref 0), (1, .long v1), (3, .int v3)] [] I L Q := by
  refine x_aload_n 0 dL_faults_78 rfl rfl ?_
  exact xs_callV mX9_erase [] [] 0 9 0 _ rfl dL_faults_79 ml_L_19 qX9_erase rfl ⟨Nat.le_of_ble_eq_true rfl, Nat.le_of_ble_eq_true rfl⟩ ⟨rfl, rfl⟩ (Nat.le_of_ble_eq_true rfl) sh_0 (by decide) rfl (Nat.le_of_ble_eq_true rfl) (K)
theorem bL_faults_82 {I : Nat → Nat → Int32} {L : Nat → Int64} {Q : Option Value → (Nat → Nat → Int32) → (Nat → Int64) → Prop} {v1 : Int64} {v3 : Int32} {s0 : Int32}  (K1 : (¬ s0 = (8 : Int32)) → XS mL_faults 91 [(0, .ref 0), (1, .long v1), (3, .int v3)] [] I L Q) (K2 : (s0 = (8 : Int32)) → XS mL_faults 87 [(0, .ref 0), (1, .long v1), (3, .int v3)] [] I L Q) : XS mL_faults 82 [(0, .ref 0), (1, .long v1), (3, .int v3)] [.int s0] I L Q := by
  refine x_bipush (v := (8 : Int32)) dL_faults_82 (by decide) ?_
  exact x_icmp_ne 91 dL_faults_84 (by decide) (fun h => K1 h) (fun h => K2 h)
theorem bL_faults_87 {I : Nat → Nat → Int32} {L : Nat → Int64} {Q : Option Value → (Nat → Nat → Int32) → (Nat → Int64) → Prop} {v1 : Int64} {v3 : Int32}  (K : XS mL_faults 92 [(0, .ref 0), (1, .long v1), (3, .int v3)] [.int (1 : Int32)] I L Q) : XS mL_faults 87 [(0, .ref 0), (1, .long v1), (3, .int v3)] [] I L Q := by
  refine x_iconst (v := (1 : Int32)) dL_faults_87 (by decide) ?_
  exact x_goto 92 dL_faults_88 (by decide) (K)
theorem bL_faults_91 {I : Nat → Nat → Int32} {L : Nat → Int64} {Q : Option Value → (Nat → Nat → Int32) → (Nat → Int64) → Prop} {v1 : Int64} {v3 : Int32}  (K : XS mL_faults 92 [(0, .ref 0), (1, .long v1), (3, .int v3)] [.int (0 : Int32)] I L Q) : XS mL_faults 91 [(0, .ref 0), (1, .long v1), (3, .int v3)] [] I L Q := by
  refine x_iconst (v := (0 : Int32)) dL_faults_91 (by decide) ?_
  exact K
theorem bL_faults_92 {I : Nat → Nat → Int32} {L : Nat → Int64} {Q : Option Value → (Nat → Nat → Int32) → (Nat → Int64) → Prop} {v1 : Int64} {v3 : Int32} {s0 : Int32}  (K : XS mL_says 0 [(0, .ref 0), (1, .int (110 : Int32)), (2, .int (111 : Int32)), (3, .int (100 : Int32)), (4, .int (101 : Int32))] [] I L (fun r I' L' => XS mL_faults 106 [(0, .ref 0), (1, .long v1), (3, .int v3), (4, .int s0)] (r.toList ++ []) I' L' Q)) : XS mL_faults 92 [(0, .ref 0), (1, .long v1), (3, .int v3)] [.int s0] I L Q := by
  refine x_istore [(0, .ref 0), (1, .long v1), (3, .int v3), (4, .int s0)] dL_faults_92 (Nat.le_of_ble_eq_true rfl) rfl ?_
  refine x_aload_n 0 dL_faults_94 rfl rfl ?_
  refine x_bipush (v := (110 : Int32)) dL_faults_95 (by decide) ?_
  refine x_bipush (v := (111 : Int32)) dL_faults_97 (by decide) ?_
  refine x_bipush (v := (100 : Int32)) dL_faults_99 (by decide) ?_
  refine x_bipush (v := (101 : Int32)) dL_faults_101 (by decide) ?_
  exact xs_callS mL_says [.ref 0, .int (110 : Int32), .int (111 : Int32), .int (100 : Int32), .int (101 : Int32)] [] 5 _ rfl dL_faults_103 ml_L_25 qL_says rfl ⟨Nat.le_of_ble_eq_true rfl, Nat.le_of_ble_eq_true rfl⟩ ⟨rfl, rfl⟩ (Nat.le_of_ble_eq_true rfl) (Nat.le_of_ble_eq_true rfl) (K)
theorem bL_faults_106 {I : Nat → Nat → Int32} {L : Nat → Int64} {Q : Option Value → (Nat → Nat → Int32) → (Nat → Int64) → Prop} {v1 : Int64} {v3 : Int32} {v4 : Int32}  (K : XS mL_says 0 [(0, .ref 0), (1, .int (115 : Int32)), (2, .int (48 : Int32)), (3, .int (56 : Int32)), (4, .int (32 : Int32))] [] I L (fun r I' L' => XS mL_faults 118 [(0, .ref 0), (1, .long v1), (3, .int v3), (4, .int v4)] (r.toList ++ []) I' L' Q)) : XS mL_faults 106 [(0, .ref 0), (1, .long v1), (3, .int v3), (4, .int v4)] [] I L Q := by
  refine x_aload_n 0 dL_faults_106 rfl rfl ?_
  refine x_bipush (v := (115 : Int32)) dL_faults_107 (by decide) ?_
  refine x_bipush (v := (48 : Int32)) dL_faults_109 (by decide) ?_
  refine x_bipush (v := (56 : Int32)) dL_faults_111 (by decide) ?_
  refine x_bipush (v := (32 : Int32)) dL_faults_113 (by decide) ?_
  exact xs_callS mL_says [.ref 0, .int (115 : Int32), .int (48 : Int32), .int (56 : Int32), .int (32 : Int32)] [] 5 _ rfl dL_faults_115 ml_L_25 qL_says rfl ⟨Nat.le_of_ble_eq_true rfl, Nat.le_of_ble_eq_true rfl⟩ ⟨rfl, rfl⟩ (Nat.le_of_ble_eq_true rfl) (Nat.le_of_ble_eq_true rfl) (K)
theorem bL_faults_118 {I : Nat → Nat → Int32} {L : Nat → Int64} {Q : Option Value → (Nat → Nat → Int32) → (Nat → Int64) → Prop} {v1 : Int64} {v3 : Int32} {v4 : Int32}  (K1 : (v4 = 0) → XS mL_faults 144 [(0, .ref 0), (1, .long v1), (3, .int v3)] [] I L Q) (K2 : (¬ v4 = 0) → XS mL_faults 123 [(0, .ref 0), (1, .long v1), (3, .int v3)] [] I L Q) : XS mL_faults 118 [(0, .ref 0), (1, .long v1), (3, .int v3), (4, .int v4)] [] I L Q := by
  refine x_iload 3 dL_faults_118 rfl ?_
  exact x_if_eq 144 dL_faults_120 (by decide) (fun h => x_sub [0, 1, 2] rfl (K1 h)) (fun h => x_sub [0, 1, 2] rfl (K2 h))
theorem bL_faults_123 {I : Nat → Nat → Int32} {L : Nat → Int64} {Q : Option Value → (Nat → Nat → Int32) → (Nat → Int64) → Prop} {v1 : Int64} {v3 : Int32}  (K : XS mX9_fault 0 [(0, .ref 0)] [] I L (fun r I' L' => XS mL_faults 127 [(0, .ref 0), (1, .long v1), (3, .int v3)] (r.toList ++ []) I' L' Q)) : XS mL_faults 123 [(0, .ref 0), (1, .long v1), (3, .int v3)] [] I L Q := by
  refine x_aload_n 0 dL_faults_123 rfl rfl ?_
  exact xs_callV mX9_fault [] [] 0 9 0 _ rfl dL_faults_124 ml_L_33 qX9_fault rfl ⟨Nat.le_of_ble_eq_true rfl, Nat.le_of_ble_eq_true rfl⟩ ⟨rfl, rfl⟩ (Nat.le_of_ble_eq_true rfl) sh_0 (by decide) rfl (Nat.le_of_ble_eq_true rfl) (K)
theorem bL_faults_127 {I : Nat → Nat → Int32} {L : Nat → Int64} {Q : Option Value → (Nat → Nat → Int32) → (Nat → Int64) → Prop} {v1 : Int64} {v3 : Int32} {s0 : Int32}  (K1 : (¬ s0 = (5 : Int32)) → XS mL_faults 144 [(0, .ref 0), (1, .long v1), (3, .int v3)] [] I L Q) (K2 : (s0 = (5 : Int32)) → XS mL_faults 131 [(0, .ref 0), (1, .long v1), (3, .int v3)] [] I L Q) : XS mL_faults 127 [(0, .ref 0), (1, .long v1), (3, .int v3)] [.int s0] I L Q := by
  refine x_iconst (v := (5 : Int32)) dL_faults_127 (by decide) ?_
  exact x_icmp_ne 144 dL_faults_128 (by decide) (fun h => K1 h) (fun h => K2 h)
theorem bL_faults_131 {I : Nat → Nat → Int32} {L : Nat → Int64} {Q : Option Value → (Nat → Nat → Int32) → (Nat → Int64) → Prop} {v1 : Int64} {v3 : Int32}  (K : XS mX9_erase 0 [(0, .ref 0)] [] I L (fun r I' L' => XS mL_faults 135 [(0, .ref 0), (1, .long v1), (3, .int v3)] (r.toList ++ []) I' L' Q)) : XS mL_faults 131 [(0, .ref 0), (1, .long v1), (3, .int v3)] [] I L Q := by
  refine x_aload_n 0 dL_faults_131 rfl rfl ?_
  exact xs_callV mX9_erase [] [] 0 9 0 _ rfl dL_faults_132 ml_L_19 qX9_erase rfl ⟨Nat.le_of_ble_eq_true rfl, Nat.le_of_ble_eq_true rfl⟩ ⟨rfl, rfl⟩ (Nat.le_of_ble_eq_true rfl) sh_0 (by decide) rfl (Nat.le_of_ble_eq_true rfl) (K)
theorem bL_faults_135 {I : Nat → Nat → Int32} {L : Nat → Int64} {Q : Option Value → (Nat → Nat → Int32) → (Nat → Int64) → Prop} {v1 : Int64} {v3 : Int32} {s0 : Int32}  (K1 : (¬ s0 = (8 : Int32)) → XS mL_faults 144 [(0, .ref 0), (1, .long v1), (3, .int v3)] [] I L Q) (K2 : (s0 = (8 : Int32)) → XS mL_faults 140 [(0, .ref 0), (1, .long v1), (3, .int v3)] [] I L Q) : XS mL_faults 135 [(0, .ref 0), (1, .long v1), (3, .int v3)] [.int s0] I L Q := by
  refine x_bipush (v := (8 : Int32)) dL_faults_135 (by decide) ?_
  exact x_icmp_ne 144 dL_faults_137 (by decide) (fun h => K1 h) (fun h => K2 h)
theorem bL_faults_140 {I : Nat → Nat → Int32} {L : Nat → Int64} {Q : Option Value → (Nat → Nat → Int32) → (Nat → Int64) → Prop} {v1 : Int64} {v3 : Int32}  (K : XS mL_faults 145 [(0, .ref 0), (1, .long v1), (3, .int v3)] [.int (1 : Int32)] I L Q) : XS mL_faults 140 [(0, .ref 0), (1, .long v1), (3, .int v3)] [] I L Q := by
  refine x_iconst (v := (1 : Int32)) dL_faults_140 (by decide) ?_
  exact x_goto 145 dL_faults_141 (by decide) (K)
theorem bL_faults_144 {I : Nat → Nat → Int32} {L : Nat → Int64} {Q : Option Value → (Nat → Nat → Int32) → (Nat → Int64) → Prop} {v1 : Int64} {v3 : Int32}  (K : XS mL_faults 145 [(0, .ref 0), (1, .long v1), (3, .int v3)] [.int (0 : Int32)] I L Q) : XS mL_faults 144 [(0, .ref 0), (1, .long v1), (3, .int v3)] [] I L Q := by
  refine x_iconst (v := (0 : Int32)) dL_faults_144 (by decide) ?_
  exact K
theorem bL_faults_145 {I : Nat → Nat → Int32} {L : Nat → Int64} {Q : Option Value → (Nat → Nat → Int32) → (Nat → Int64) → Prop} {v1 : Int64} {v3 : Int32} {s0 : Int32}  (K : XS mL_says 0 [(0, .ref 0), (1, .int (110 : Int32)), (2, .int (111 : Int32)), (3, .int (100 : Int32)), (4, .int (101 : Int32))] [] I L (fun r I' L' => XS mL_faults 159 [(0, .ref 0), (1, .long v1), (3, .int v3), (4, .int s0)] (r.toList ++ []) I' L' Q)) : XS mL_faults 145 [(0, .ref 0), (1, .long v1), (3, .int v3)] [.int s0] I L Q := by
  refine x_istore [(0, .ref 0), (1, .long v1), (3, .int v3), (4, .int s0)] dL_faults_145 (Nat.le_of_ble_eq_true rfl) rfl ?_
  refine x_aload_n 0 dL_faults_147 rfl rfl ?_
  refine x_bipush (v := (110 : Int32)) dL_faults_148 (by decide) ?_
  refine x_bipush (v := (111 : Int32)) dL_faults_150 (by decide) ?_
  refine x_bipush (v := (100 : Int32)) dL_faults_152 (by decide) ?_
  refine x_bipush (v := (101 : Int32)) dL_faults_154 (by decide) ?_
  exact xs_callS mL_says [.ref 0, .int (110 : Int32), .int (111 : Int32), .int (100 : Int32), .int (101 : Int32)] [] 5 _ rfl dL_faults_156 ml_L_25 qL_says rfl ⟨Nat.le_of_ble_eq_true rfl, Nat.le_of_ble_eq_true rfl⟩ ⟨rfl, rfl⟩ (Nat.le_of_ble_eq_true rfl) (Nat.le_of_ble_eq_true rfl) (K)
theorem bL_faults_159 {I : Nat → Nat → Int32} {L : Nat → Int64} {Q : Option Value → (Nat → Nat → Int32) → (Nat → Int64) → Prop} {v1 : Int64} {v3 : Int32} {v4 : Int32}  (K : XS mL_says 0 [(0, .ref 0), (1, .int (115 : Int32)), (2, .int (51 : Int32)), (3, .int (59 : Int32)), (4, .int (32 : Int32))] [] I L (fun r I' L' => XS mL_faults 171 [(0, .ref 0), (1, .long v1), (3, .int v3), (4, .int v4)] (r.toList ++ []) I' L' Q)) : XS mL_faults 159 [(0, .ref 0), (1, .long v1), (3, .int v3), (4, .int v4)] [] I L Q := by
  refine x_aload_n 0 dL_faults_159 rfl rfl ?_
  refine x_bipush (v := (115 : Int32)) dL_faults_160 (by decide) ?_
  refine x_bipush (v := (51 : Int32)) dL_faults_162 (by decide) ?_
  refine x_bipush (v := (59 : Int32)) dL_faults_164 (by decide) ?_
  refine x_bipush (v := (32 : Int32)) dL_faults_166 (by decide) ?_
  exact xs_callS mL_says [.ref 0, .int (115 : Int32), .int (51 : Int32), .int (59 : Int32), .int (32 : Int32)] [] 5 _ rfl dL_faults_168 ml_L_25 qL_says rfl ⟨Nat.le_of_ble_eq_true rfl, Nat.le_of_ble_eq_true rfl⟩ ⟨rfl, rfl⟩ (Nat.le_of_ble_eq_true rfl) (Nat.le_of_ble_eq_true rfl) (K)
theorem bL_faults_171 {I : Nat → Nat → Int32} {L : Nat → Int64} {Q : Option Value → (Nat → Nat → Int32) → (Nat → Int64) → Prop} {v1 : Int64} {v3 : Int32} {v4 : Int32}  (K : XS mL_says 0 [(0, .ref 0), (1, .int (108 : Int32)), (2, .int (105 : Int32)), (3, .int (110 : Int32)), (4, .int (107 : Int32))] [] I L (fun r I' L' => XS mL_faults 183 [(0, .ref 0), (1, .long v1), (3, .int v3), (4, .int v4)] (r.toList ++ []) I' L' Q)) : XS mL_faults 171 [(0, .ref 0), (1, .long v1), (3, .int v3), (4, .int v4)] [] I L Q := by
  refine x_aload_n 0 dL_faults_171 rfl rfl ?_
  refine x_bipush (v := (108 : Int32)) dL_faults_172 (by decide) ?_
  refine x_bipush (v := (105 : Int32)) dL_faults_174 (by decide) ?_
  refine x_bipush (v := (110 : Int32)) dL_faults_176 (by decide) ?_
  refine x_bipush (v := (107 : Int32)) dL_faults_178 (by decide) ?_
  exact xs_callS mL_says [.ref 0, .int (108 : Int32), .int (105 : Int32), .int (110 : Int32), .int (107 : Int32)] [] 5 _ rfl dL_faults_180 ml_L_25 qL_says rfl ⟨Nat.le_of_ble_eq_true rfl, Nat.le_of_ble_eq_true rfl⟩ ⟨rfl, rfl⟩ (Nat.le_of_ble_eq_true rfl) (Nat.le_of_ble_eq_true rfl) (K)
theorem bL_faults_183 {I : Nat → Nat → Int32} {L : Nat → Int64} {Q : Option Value → (Nat → Nat → Int32) → (Nat → Int64) → Prop} {v1 : Int64} {v3 : Int32} {v4 : Int32}  (K : XS mL_says 0 [(0, .ref 0), (1, .int (48 : Int32)), (2, .int (32 : Int32)), (3, .int (48 : Int32)), (4, .int (32 : Int32))] [] I L (fun r I' L' => XS mL_faults 195 [(0, .ref 0), (1, .long v1), (3, .int v3), (4, .int v4)] (r.toList ++ []) I' L' Q)) : XS mL_faults 183 [(0, .ref 0), (1, .long v1), (3, .int v3), (4, .int v4)] [] I L Q := by
  refine x_aload_n 0 dL_faults_183 rfl rfl ?_
  refine x_bipush (v := (48 : Int32)) dL_faults_184 (by decide) ?_
  refine x_bipush (v := (32 : Int32)) dL_faults_186 (by decide) ?_
  refine x_bipush (v := (48 : Int32)) dL_faults_188 (by decide) ?_
  refine x_bipush (v := (32 : Int32)) dL_faults_190 (by decide) ?_
  exact xs_callS mL_says [.ref 0, .int (48 : Int32), .int (32 : Int32), .int (48 : Int32), .int (32 : Int32)] [] 5 _ rfl dL_faults_192 ml_L_25 qL_says rfl ⟨Nat.le_of_ble_eq_true rfl, Nat.le_of_ble_eq_true rfl⟩ ⟨rfl, rfl⟩ (Nat.le_of_ble_eq_true rfl) (Nat.le_of_ble_eq_true rfl) (K)
theorem bL_faults_195 {I : Nat → Nat → Int32} {L : Nat → Int64} {Q : Option Value → (Nat → Nat → Int32) → (Nat → Int64) → Prop} {v1 : Int64} {v3 : Int32} {v4 : Int32}  (K1 : (v4 = 0) → XS mL_faults 213 [(0, .ref 0), (1, .long v1), (3, .int v3)] [] I L Q) (K2 : (¬ v4 = 0) → XS mL_faults 200 [(0, .ref 0), (1, .long v1), (3, .int v3)] [] I L Q) : XS mL_faults 195 [(0, .ref 0), (1, .long v1), (3, .int v3), (4, .int v4)] [] I L Q := by
  refine x_iload 3 dL_faults_195 rfl ?_
  exact x_if_eq 213 dL_faults_197 (by decide) (fun h => x_sub [0, 1, 2] rfl (K1 h)) (fun h => x_sub [0, 1, 2] rfl (K2 h))
theorem bL_faults_200 {I : Nat → Nat → Int32} {L : Nat → Int64} {Q : Option Value → (Nat → Nat → Int32) → (Nat → Int64) → Prop} {v1 : Int64} {v3 : Int32}  (K : XS mX9_fault 0 [(0, .ref 0)] [] I L (fun r I' L' => XS mL_faults 204 [(0, .ref 0), (1, .long v1), (3, .int v3)] (r.toList ++ []) I' L' Q)) : XS mL_faults 200 [(0, .ref 0), (1, .long v1), (3, .int v3)] [] I L Q := by
  refine x_aload_n 0 dL_faults_200 rfl rfl ?_
  exact xs_callV mX9_fault [] [] 0 9 0 _ rfl dL_faults_201 ml_L_33 qX9_fault rfl ⟨Nat.le_of_ble_eq_true rfl, Nat.le_of_ble_eq_true rfl⟩ ⟨rfl, rfl⟩ (Nat.le_of_ble_eq_true rfl) sh_0 (by decide) rfl (Nat.le_of_ble_eq_true rfl) (K)
theorem bL_faults_204 {I : Nat → Nat → Int32} {L : Nat → Int64} {Q : Option Value → (Nat → Nat → Int32) → (Nat → Int64) → Prop} {v1 : Int64} {v3 : Int32} {s0 : Int32}  (K1 : (¬ s0 = (14 : Int32)) → XS mL_faults 213 [(0, .ref 0), (1, .long v1), (3, .int v3)] [] I L Q) (K2 : (s0 = (14 : Int32)) → XS mL_faults 209 [(0, .ref 0), (1, .long v1), (3, .int v3)] [] I L Q) : XS mL_faults 204 [(0, .ref 0), (1, .long v1), (3, .int v3)] [.int s0] I L Q := by
  refine x_bipush (v := (14 : Int32)) dL_faults_204 (by decide) ?_
  exact x_icmp_ne 213 dL_faults_206 (by decide) (fun h => K1 h) (fun h => K2 h)
theorem bL_faults_209 {I : Nat → Nat → Int32} {L : Nat → Int64} {Q : Option Value → (Nat → Nat → Int32) → (Nat → Int64) → Prop} {v1 : Int64} {v3 : Int32}  (K : XS mL_faults 214 [(0, .ref 0), (1, .long v1), (3, .int v3)] [.int (1 : Int32)] I L Q) : XS mL_faults 209 [(0, .ref 0), (1, .long v1), (3, .int v3)] [] I L Q := by
  refine x_iconst (v := (1 : Int32)) dL_faults_209 (by decide) ?_
  exact x_goto 214 dL_faults_210 (by decide) (K)
theorem bL_faults_213 {I : Nat → Nat → Int32} {L : Nat → Int64} {Q : Option Value → (Nat → Nat → Int32) → (Nat → Int64) → Prop} {v1 : Int64} {v3 : Int32}  (K : XS mL_faults 214 [(0, .ref 0), (1, .long v1), (3, .int v3)] [.int (0 : Int32)] I L Q) : XS mL_faults 213 [(0, .ref 0), (1, .long v1), (3, .int v3)] [] I L Q := by
  refine x_iconst (v := (0 : Int32)) dL_faults_213 (by decide) ?_
  exact K
theorem bL_faults_214 {I : Nat → Nat → Int32} {L : Nat → Int64} {Q : Option Value → (Nat → Nat → Int32) → (Nat → Int64) → Prop} {v1 : Int64} {v3 : Int32} {s0 : Int32}  (K : XS mX9_erase 0 [(0, .ref 0)] [] I L (fun r I' L' => XS mL_faults 220 [(0, .ref 0), (1, .long v1), (3, .int v3), (4, .int s0)] (r.toList ++ []) I' L' Q)) : XS mL_faults 214 [(0, .ref 0), (1, .long v1), (3, .int v3)] [.int s0] I L Q := by
  refine x_istore [(0, .ref 0), (1, .long v1), (3, .int v3), (4, .int s0)] dL_faults_214 (Nat.le_of_ble_eq_true rfl) rfl ?_
  refine x_aload_n 0 dL_faults_216 rfl rfl ?_
  exact xs_callV mX9_erase [] [] 0 9 0 _ rfl dL_faults_217 ml_L_19 qX9_erase rfl ⟨Nat.le_of_ble_eq_true rfl, Nat.le_of_ble_eq_true rfl⟩ ⟨rfl, rfl⟩ (Nat.le_of_ble_eq_true rfl) sh_0 (by decide) rfl (Nat.le_of_ble_eq_true rfl) (K)
theorem bL_faults_220 {I : Nat → Nat → Int32} {L : Nat → Int64} {Q : Option Value → (Nat → Nat → Int32) → (Nat → Int64) → Prop} {v1 : Int64} {v3 : Int32} {v4 : Int32} {s0 : Int32}  (K : XS mL_says 0 [(0, .ref 0), (1, .int (110 : Int32)), (2, .int (111 : Int32)), (3, .int (100 : Int32)), (4, .int (101 : Int32))] [] I L (fun r I' L' => XS mL_faults 233 [(0, .ref 0), (1, .long v1), (3, .int v3), (4, .int v4)] (r.toList ++ []) I' L' Q)) : XS mL_faults 220 [(0, .ref 0), (1, .long v1), (3, .int v3), (4, .int v4)] [.int s0] I L Q := by
  refine x_pop dL_faults_220 rfl ?_
  refine x_aload_n 0 dL_faults_221 rfl rfl ?_
  refine x_bipush (v := (110 : Int32)) dL_faults_222 (by decide) ?_
  refine x_bipush (v := (111 : Int32)) dL_faults_224 (by decide) ?_
  refine x_bipush (v := (100 : Int32)) dL_faults_226 (by decide) ?_
  refine x_bipush (v := (101 : Int32)) dL_faults_228 (by decide) ?_
  exact xs_callS mL_says [.ref 0, .int (110 : Int32), .int (111 : Int32), .int (100 : Int32), .int (101 : Int32)] [] 5 _ rfl dL_faults_230 ml_L_25 qL_says rfl ⟨Nat.le_of_ble_eq_true rfl, Nat.le_of_ble_eq_true rfl⟩ ⟨rfl, rfl⟩ (Nat.le_of_ble_eq_true rfl) (Nat.le_of_ble_eq_true rfl) (K)
theorem bL_faults_233 {I : Nat → Nat → Int32} {L : Nat → Int64} {Q : Option Value → (Nat → Nat → Int32) → (Nat → Int64) → Prop} {v1 : Int64} {v3 : Int32} {v4 : Int32}  (K : XS mL_says 0 [(0, .ref 0), (1, .int (115 : Int32)), (2, .int (51 : Int32)), (3, .int (59 : Int32)), (4, .int (32 : Int32))] [] I L (fun r I' L' => XS mL_faults 245 [(0, .ref 0), (1, .long v1), (3, .int v3), (4, .int v4)] (r.toList ++ []) I' L' Q)) : XS mL_faults 233 [(0, .ref 0), (1, .long v1), (3, .int v3), (4, .int v4)] [] I L Q := by
  refine x_aload_n 0 dL_faults_233 rfl rfl ?_
  refine x_bipush (v := (115 : Int32)) dL_faults_234 (by decide) ?_
  refine x_bipush (v := (51 : Int32)) dL_faults_236 (by decide) ?_
  refine x_bipush (v := (59 : Int32)) dL_faults_238 (by decide) ?_
  refine x_bipush (v := (32 : Int32)) dL_faults_240 (by decide) ?_
  exact xs_callS mL_says [.ref 0, .int (115 : Int32), .int (51 : Int32), .int (59 : Int32), .int (32 : Int32)] [] 5 _ rfl dL_faults_242 ml_L_25 qL_says rfl ⟨Nat.le_of_ble_eq_true rfl, Nat.le_of_ble_eq_true rfl⟩ ⟨rfl, rfl⟩ (Nat.le_of_ble_eq_true rfl) (Nat.le_of_ble_eq_true rfl) (K)
theorem bL_faults_245 {I : Nat → Nat → Int32} {L : Nat → Int64} {Q : Option Value → (Nat → Nat → Int32) → (Nat → Int64) → Prop} {v1 : Int64} {v3 : Int32} {v4 : Int32}  (K : XS mL_says 0 [(0, .ref 0), (1, .int (108 : Int32)), (2, .int (105 : Int32)), (3, .int (110 : Int32)), (4, .int (107 : Int32))] [] I L (fun r I' L' => XS mL_faults 257 [(0, .ref 0), (1, .long v1), (3, .int v3), (4, .int v4)] (r.toList ++ []) I' L' Q)) : XS mL_faults 245 [(0, .ref 0), (1, .long v1), (3, .int v3), (4, .int v4)] [] I L Q := by
  refine x_aload_n 0 dL_faults_245 rfl rfl ?_
  refine x_bipush (v := (108 : Int32)) dL_faults_246 (by decide) ?_
  refine x_bipush (v := (105 : Int32)) dL_faults_248 (by decide) ?_
  refine x_bipush (v := (110 : Int32)) dL_faults_250 (by decide) ?_
  refine x_bipush (v := (107 : Int32)) dL_faults_252 (by decide) ?_
  exact xs_callS mL_says [.ref 0, .int (108 : Int32), .int (105 : Int32), .int (110 : Int32), .int (107 : Int32)] [] 5 _ rfl dL_faults_254 ml_L_25 qL_says rfl ⟨Nat.le_of_ble_eq_true rfl, Nat.le_of_ble_eq_true rfl⟩ ⟨rfl, rfl⟩ (Nat.le_of_ble_eq_true rfl) (Nat.le_of_ble_eq_true rfl) (K)
theorem bL_faults_257 {I : Nat → Nat → Int32} {L : Nat → Int64} {Q : Option Value → (Nat → Nat → Int32) → (Nat → Int64) → Prop} {v1 : Int64} {v3 : Int32} {v4 : Int32}  (K : XS mL_says 0 [(0, .ref 0), (1, .int (51 : Int32)), (2, .int (32 : Int32)), (3, .int (48 : Int32)), (4, .int (32 : Int32))] [] I L (fun r I' L' => XS mL_faults 269 [(0, .ref 0), (1, .long v1), (3, .int v3), (4, .int v4)] (r.toList ++ []) I' L' Q)) : XS mL_faults 257 [(0, .ref 0), (1, .long v1), (3, .int v3), (4, .int v4)] [] I L Q := by
  refine x_aload_n 0 dL_faults_257 rfl rfl ?_
  refine x_bipush (v := (51 : Int32)) dL_faults_258 (by decide) ?_
  refine x_bipush (v := (32 : Int32)) dL_faults_260 (by decide) ?_
  refine x_bipush (v := (48 : Int32)) dL_faults_262 (by decide) ?_
  refine x_bipush (v := (32 : Int32)) dL_faults_264 (by decide) ?_
  exact xs_callS mL_says [.ref 0, .int (51 : Int32), .int (32 : Int32), .int (48 : Int32), .int (32 : Int32)] [] 5 _ rfl dL_faults_266 ml_L_25 qL_says rfl ⟨Nat.le_of_ble_eq_true rfl, Nat.le_of_ble_eq_true rfl⟩ ⟨rfl, rfl⟩ (Nat.le_of_ble_eq_true rfl) (Nat.le_of_ble_eq_true rfl) (K)
theorem bL_faults_269 {I : Nat → Nat → Int32} {L : Nat → Int64} {Q : Option Value → (Nat → Nat → Int32) → (Nat → Int64) → Prop} {v1 : Int64} {v3 : Int32} {v4 : Int32}  (K1 : (v4 = 0) → XS mL_faults 296 [(0, .ref 0), (1, .long v1), (3, .int v3)] [] I L Q) (K2 : (¬ v4 = 0) → XS mL_faults 274 [(0, .ref 0), (1, .long v1), (3, .int v3)] [] I L Q) : XS mL_faults 269 [(0, .ref 0), (1, .long v1), (3, .int v3), (4, .int v4)] [] I L Q := by
  refine x_iload 3 dL_faults_269 rfl ?_
  exact x_if_eq 296 dL_faults_271 (by decide) (fun h => x_sub [0, 1, 2] rfl (K1 h)) (fun h => x_sub [0, 1, 2] rfl (K2 h))
theorem bL_faults_274 {I : Nat → Nat → Int32} {L : Nat → Int64} {Q : Option Value → (Nat → Nat → Int32) → (Nat → Int64) → Prop} {v1 : Int64} {v3 : Int32}  (K : XS mX9_fault 0 [(0, .ref 0)] [] I L (fun r I' L' => XS mL_faults 278 [(0, .ref 0), (1, .long v1), (3, .int v3)] (r.toList ++ []) I' L' Q)) : XS mL_faults 274 [(0, .ref 0), (1, .long v1), (3, .int v3)] [] I L Q := by
  refine x_aload_n 0 dL_faults_274 rfl rfl ?_
  exact xs_callV mX9_fault [] [] 0 9 0 _ rfl dL_faults_275 ml_L_33 qX9_fault rfl ⟨Nat.le_of_ble_eq_true rfl, Nat.le_of_ble_eq_true rfl⟩ ⟨rfl, rfl⟩ (Nat.le_of_ble_eq_true rfl) sh_0 (by decide) rfl (Nat.le_of_ble_eq_true rfl) (K)
theorem bL_faults_278 {I : Nat → Nat → Int32} {L : Nat → Int64} {Q : Option Value → (Nat → Nat → Int32) → (Nat → Int64) → Prop} {v1 : Int64} {v3 : Int32} {s0 : Int32}  (K1 : (¬ s0 = (12 : Int32)) → XS mL_faults 296 [(0, .ref 0), (1, .long v1), (3, .int v3)] [] I L Q) (K2 : (s0 = (12 : Int32)) → XS mL_faults 283 [(0, .ref 0), (1, .long v1), (3, .int v3)] [] I L Q) : XS mL_faults 278 [(0, .ref 0), (1, .long v1), (3, .int v3)] [.int s0] I L Q := by
  refine x_bipush (v := (12 : Int32)) dL_faults_278 (by decide) ?_
  exact x_icmp_ne 296 dL_faults_280 (by decide) (fun h => K1 h) (fun h => K2 h)
theorem bL_faults_283 {I : Nat → Nat → Int32} {L : Nat → Int64} {Q : Option Value → (Nat → Nat → Int32) → (Nat → Int64) → Prop} {v1 : Int64} {v3 : Int32}  (K : XS mX9_erase 0 [(0, .ref 0)] [] I L (fun r I' L' => XS mL_faults 287 [(0, .ref 0), (1, .long v1), (3, .int v3)] (r.toList ++ []) I' L' Q)) : XS mL_faults 283 [(0, .ref 0), (1, .long v1), (3, .int v3)] [] I L Q := by
  refine x_aload_n 0 dL_faults_283 rfl rfl ?_
  exact xs_callV mX9_erase [] [] 0 9 0 _ rfl dL_faults_284 ml_L_19 qX9_erase rfl ⟨Nat.le_of_ble_eq_true rfl, Nat.le_of_ble_eq_true rfl⟩ ⟨rfl, rfl⟩ (Nat.le_of_ble_eq_true rfl) sh_0 (by decide) rfl (Nat.le_of_ble_eq_true rfl) (K)
theorem bL_faults_287 {I : Nat → Nat → Int32} {L : Nat → Int64} {Q : Option Value → (Nat → Nat → Int32) → (Nat → Int64) → Prop} {v1 : Int64} {v3 : Int32} {s0 : Int32}  (K1 : (¬ s0 = (16 : Int32)) → XS mL_faults 296 [(0, .ref 0), (1, .long v1), (3, .int v3)] [] I L Q) (K2 : (s0 = (16 : Int32)) → XS mL_faults 292 [(0, .ref 0), (1, .long v1), (3, .int v3)] [] I L Q) : XS mL_faults 287 [(0, .ref 0), (1, .long v1), (3, .int v3)] [.int s0] I L Q := by
  refine x_bipush (v := (16 : Int32)) dL_faults_287 (by decide) ?_
  exact x_icmp_ne 296 dL_faults_289 (by decide) (fun h => K1 h) (fun h => K2 h)
theorem bL_faults_292 {I : Nat → Nat → Int32} {L : Nat → Int64} {Q : Option Value → (Nat → Nat → Int32) → (Nat → Int64) → Prop} {v1 : Int64} {v3 : Int32}  (K : XS mL_faults 297 [(0, .ref 0), (1, .long v1), (3, .int v3)] [.int (1 : Int32)] I L Q) : XS mL_faults 292 [(0, .ref 0), (1, .long v1), (3, .int v3)] [] I L Q := by
  refine x_iconst (v := (1 : Int32)) dL_faults_292 (by decide) ?_
  exact x_goto 297 dL_faults_293 (by decide) (K)
theorem bL_faults_296 {I : Nat → Nat → Int32} {L : Nat → Int64} {Q : Option Value → (Nat → Nat → Int32) → (Nat → Int64) → Prop} {v1 : Int64} {v3 : Int32}  (K : XS mL_faults 297 [(0, .ref 0), (1, .long v1), (3, .int v3)] [.int (0 : Int32)] I L Q) : XS mL_faults 296 [(0, .ref 0), (1, .long v1), (3, .int v3)] [] I L Q := by
  refine x_iconst (v := (0 : Int32)) dL_faults_296 (by decide) ?_
  exact K
theorem bL_faults_297 {I : Nat → Nat → Int32} {L : Nat → Int64} {Q : Option Value → (Nat → Nat → Int32) → (Nat → Int64) → Prop} {v1 : Int64} {v3 : Int32} {s0 : Int32}  (K : XS mL_says 0 [(0, .ref 0), (1, .int (110 : Int32)), (2, .int (111 : Int32)), (3, .int (100 : Int32)), (4, .int (101 : Int32))] [] I L (fun r I' L' => XS mL_faults 311 [(0, .ref 0), (1, .long v1), (3, .int v3), (4, .int s0)] (r.toList ++ []) I' L' Q)) : XS mL_faults 297 [(0, .ref 0), (1, .long v1), (3, .int v3)] [.int s0] I L Q := by
  refine x_istore [(0, .ref 0), (1, .long v1), (3, .int v3), (4, .int s0)] dL_faults_297 (Nat.le_of_ble_eq_true rfl) rfl ?_
  refine x_aload_n 0 dL_faults_299 rfl rfl ?_
  refine x_bipush (v := (110 : Int32)) dL_faults_300 (by decide) ?_
  refine x_bipush (v := (111 : Int32)) dL_faults_302 (by decide) ?_
  refine x_bipush (v := (100 : Int32)) dL_faults_304 (by decide) ?_
  refine x_bipush (v := (101 : Int32)) dL_faults_306 (by decide) ?_
  exact xs_callS mL_says [.ref 0, .int (110 : Int32), .int (111 : Int32), .int (100 : Int32), .int (101 : Int32)] [] 5 _ rfl dL_faults_308 ml_L_25 qL_says rfl ⟨Nat.le_of_ble_eq_true rfl, Nat.le_of_ble_eq_true rfl⟩ ⟨rfl, rfl⟩ (Nat.le_of_ble_eq_true rfl) (Nat.le_of_ble_eq_true rfl) (K)
theorem bL_faults_311 {I : Nat → Nat → Int32} {L : Nat → Int64} {Q : Option Value → (Nat → Nat → Int32) → (Nat → Int64) → Prop} {v1 : Int64} {v3 : Int32} {v4 : Int32}  (K : XS mL_says 0 [(0, .ref 0), (1, .int (115 : Int32)), (2, .int (51 : Int32)), (3, .int (59 : Int32)), (4, .int (32 : Int32))] [] I L (fun r I' L' => XS mL_faults 323 [(0, .ref 0), (1, .long v1), (3, .int v3), (4, .int v4)] (r.toList ++ []) I' L' Q)) : XS mL_faults 311 [(0, .ref 0), (1, .long v1), (3, .int v3), (4, .int v4)] [] I L Q := by
  refine x_aload_n 0 dL_faults_311 rfl rfl ?_
  refine x_bipush (v := (115 : Int32)) dL_faults_312 (by decide) ?_
  refine x_bipush (v := (51 : Int32)) dL_faults_314 (by decide) ?_
  refine x_bipush (v := (59 : Int32)) dL_faults_316 (by decide) ?_
  refine x_bipush (v := (32 : Int32)) dL_faults_318 (by decide) ?_
  exact xs_callS mL_says [.ref 0, .int (115 : Int32), .int (51 : Int32), .int (59 : Int32), .int (32 : Int32)] [] 5 _ rfl dL_faults_320 ml_L_25 qL_says rfl ⟨Nat.le_of_ble_eq_true rfl, Nat.le_of_ble_eq_true rfl⟩ ⟨rfl, rfl⟩ (Nat.le_of_ble_eq_true rfl) (Nat.le_of_ble_eq_true rfl) (K)
theorem bL_faults_323 {I : Nat → Nat → Int32} {L : Nat → Int64} {Q : Option Value → (Nat → Nat → Int32) → (Nat → Int64) → Prop} {v1 : Int64} {v3 : Int32} {v4 : Int32}  (K : XS mL_says 0 [(0, .ref 0), (1, .int (108 : Int32)), (2, .int (105 : Int32)), (3, .int (110 : Int32)), (4, .int (107 : Int32))] [] I L (fun r I' L' => XS mL_faults 335 [(0, .ref 0), (1, .long v1), (3, .int v3), (4, .int v4)] (r.toList ++ []) I' L' Q)) : XS mL_faults 323 [(0, .ref 0), (1, .long v1), (3, .int v3), (4, .int v4)] [] I L Q := by
  refine x_aload_n 0 dL_faults_323 rfl rfl ?_
  refine x_bipush (v := (108 : Int32)) dL_faults_324 (by decide) ?_
  refine x_bipush (v := (105 : Int32)) dL_faults_326 (by decide) ?_
  refine x_bipush (v := (110 : Int32)) dL_faults_328 (by decide) ?_
  refine x_bipush (v := (107 : Int32)) dL_faults_330 (by decide) ?_
  exact xs_callS mL_says [.ref 0, .int (108 : Int32), .int (105 : Int32), .int (110 : Int32), .int (107 : Int32)] [] 5 _ rfl dL_faults_332 ml_L_25 qL_says rfl ⟨Nat.le_of_ble_eq_true rfl, Nat.le_of_ble_eq_true rfl⟩ ⟨rfl, rfl⟩ (Nat.le_of_ble_eq_true rfl) (Nat.le_of_ble_eq_true rfl) (K)
theorem bL_faults_335 {I : Nat → Nat → Int32} {L : Nat → Int64} {Q : Option Value → (Nat → Nat → Int32) → (Nat → Int64) → Prop} {v1 : Int64} {v3 : Int32} {v4 : Int32}  (K : XS mL_says 0 [(0, .ref 0), (1, .int (50 : Int32)), (2, .int (32 : Int32)), (3, .int (49 : Int32)), (4, .int (32 : Int32))] [] I L (fun r I' L' => XS mL_faults 347 [(0, .ref 0), (1, .long v1), (3, .int v3), (4, .int v4)] (r.toList ++ []) I' L' Q)) : XS mL_faults 335 [(0, .ref 0), (1, .long v1), (3, .int v3), (4, .int v4)] [] I L Q := by
  refine x_aload_n 0 dL_faults_335 rfl rfl ?_
  refine x_bipush (v := (50 : Int32)) dL_faults_336 (by decide) ?_
  refine x_bipush (v := (32 : Int32)) dL_faults_338 (by decide) ?_
  refine x_bipush (v := (49 : Int32)) dL_faults_340 (by decide) ?_
  refine x_bipush (v := (32 : Int32)) dL_faults_342 (by decide) ?_
  exact xs_callS mL_says [.ref 0, .int (50 : Int32), .int (32 : Int32), .int (49 : Int32), .int (32 : Int32)] [] 5 _ rfl dL_faults_344 ml_L_25 qL_says rfl ⟨Nat.le_of_ble_eq_true rfl, Nat.le_of_ble_eq_true rfl⟩ ⟨rfl, rfl⟩ (Nat.le_of_ble_eq_true rfl) (Nat.le_of_ble_eq_true rfl) (K)
theorem bL_faults_347 {I : Nat → Nat → Int32} {L : Nat → Int64} {Q : Option Value → (Nat → Nat → Int32) → (Nat → Int64) → Prop} {v1 : Int64} {v3 : Int32} {v4 : Int32}  (K1 : (v4 = 0) → XS mL_faults 365 [(0, .ref 0), (1, .long v1), (3, .int v3)] [] I L Q) (K2 : (¬ v4 = 0) → XS mL_faults 352 [(0, .ref 0), (1, .long v1), (3, .int v3)] [] I L Q) : XS mL_faults 347 [(0, .ref 0), (1, .long v1), (3, .int v3), (4, .int v4)] [] I L Q := by
  refine x_iload 3 dL_faults_347 rfl ?_
  exact x_if_eq 365 dL_faults_349 (by decide) (fun h => x_sub [0, 1, 2] rfl (K1 h)) (fun h => x_sub [0, 1, 2] rfl (K2 h))
theorem bL_faults_352 {I : Nat → Nat → Int32} {L : Nat → Int64} {Q : Option Value → (Nat → Nat → Int32) → (Nat → Int64) → Prop} {v1 : Int64} {v3 : Int32}  (K : XS mX9_fault 0 [(0, .ref 0)] [] I L (fun r I' L' => XS mL_faults 356 [(0, .ref 0), (1, .long v1), (3, .int v3)] (r.toList ++ []) I' L' Q)) : XS mL_faults 352 [(0, .ref 0), (1, .long v1), (3, .int v3)] [] I L Q := by
  refine x_aload_n 0 dL_faults_352 rfl rfl ?_
  exact xs_callV mX9_fault [] [] 0 9 0 _ rfl dL_faults_353 ml_L_33 qX9_fault rfl ⟨Nat.le_of_ble_eq_true rfl, Nat.le_of_ble_eq_true rfl⟩ ⟨rfl, rfl⟩ (Nat.le_of_ble_eq_true rfl) sh_0 (by decide) rfl (Nat.le_of_ble_eq_true rfl) (K)
theorem bL_faults_356 {I : Nat → Nat → Int32} {L : Nat → Int64} {Q : Option Value → (Nat → Nat → Int32) → (Nat → Int64) → Prop} {v1 : Int64} {v3 : Int32} {s0 : Int32}  (K1 : (¬ s0 = (16 : Int32)) → XS mL_faults 365 [(0, .ref 0), (1, .long v1), (3, .int v3)] [] I L Q) (K2 : (s0 = (16 : Int32)) → XS mL_faults 361 [(0, .ref 0), (1, .long v1), (3, .int v3)] [] I L Q) : XS mL_faults 356 [(0, .ref 0), (1, .long v1), (3, .int v3)] [.int s0] I L Q := by
  refine x_bipush (v := (16 : Int32)) dL_faults_356 (by decide) ?_
  exact x_icmp_ne 365 dL_faults_358 (by decide) (fun h => K1 h) (fun h => K2 h)
theorem bL_faults_361 {I : Nat → Nat → Int32} {L : Nat → Int64} {Q : Option Value → (Nat → Nat → Int32) → (Nat → Int64) → Prop} {v1 : Int64} {v3 : Int32}  (K : XS mL_faults 366 [(0, .ref 0), (1, .long v1), (3, .int v3)] [.int (1 : Int32)] I L Q) : XS mL_faults 361 [(0, .ref 0), (1, .long v1), (3, .int v3)] [] I L Q := by
  refine x_iconst (v := (1 : Int32)) dL_faults_361 (by decide) ?_
  exact x_goto 366 dL_faults_362 (by decide) (K)
theorem bL_faults_365 {I : Nat → Nat → Int32} {L : Nat → Int64} {Q : Option Value → (Nat → Nat → Int32) → (Nat → Int64) → Prop} {v1 : Int64} {v3 : Int32}  (K : XS mL_faults 366 [(0, .ref 0), (1, .long v1), (3, .int v3)] [.int (0 : Int32)] I L Q) : XS mL_faults 365 [(0, .ref 0), (1, .long v1), (3, .int v3)] [] I L Q := by
  refine x_iconst (v := (0 : Int32)) dL_faults_365 (by decide) ?_
  exact K
theorem bL_faults_366 {I : Nat → Nat → Int32} {L : Nat → Int64} {Q : Option Value → (Nat → Nat → Int32) → (Nat → Int64) → Prop} {v1 : Int64} {v3 : Int32} {s0 : Int32}  (K : XS mL_says 0 [(0, .ref 0), (1, .int (48 : Int32)), (2, .int (32 : Int32)), (3, .int (49 : Int32)), (4, .int (32 : Int32))] [] I L (fun r I' L' => XS mL_faults 380 [(0, .ref 0), (1, .long v1), (3, .int v3), (4, .int s0)] (r.toList ++ []) I' L' Q)) : XS mL_faults 366 [(0, .ref 0), (1, .long v1), (3, .int v3)] [.int s0] I L Q := by
  refine x_istore [(0, .ref 0), (1, .long v1), (3, .int v3), (4, .int s0)] dL_faults_366 (Nat.le_of_ble_eq_true rfl) rfl ?_
  refine x_aload_n 0 dL_faults_368 rfl rfl ?_
  refine x_bipush (v := (48 : Int32)) dL_faults_369 (by decide) ?_
  refine x_bipush (v := (32 : Int32)) dL_faults_371 (by decide) ?_
  refine x_bipush (v := (49 : Int32)) dL_faults_373 (by decide) ?_
  refine x_bipush (v := (32 : Int32)) dL_faults_375 (by decide) ?_
  exact xs_callS mL_says [.ref 0, .int (48 : Int32), .int (32 : Int32), .int (49 : Int32), .int (32 : Int32)] [] 5 _ rfl dL_faults_377 ml_L_25 qL_says rfl ⟨Nat.le_of_ble_eq_true rfl, Nat.le_of_ble_eq_true rfl⟩ ⟨rfl, rfl⟩ (Nat.le_of_ble_eq_true rfl) (Nat.le_of_ble_eq_true rfl) (K)
theorem bL_faults_380 {I : Nat → Nat → Int32} {L : Nat → Int64} {Q : Option Value → (Nat → Nat → Int32) → (Nat → Int64) → Prop} {v1 : Int64} {v3 : Int32} {v4 : Int32}  (K1 : (v4 = 0) → XS mL_faults 407 [(0, .ref 0), (1, .long v1), (3, .int v3)] [] I L Q) (K2 : (¬ v4 = 0) → XS mL_faults 385 [(0, .ref 0), (1, .long v1), (3, .int v3)] [] I L Q) : XS mL_faults 380 [(0, .ref 0), (1, .long v1), (3, .int v3), (4, .int v4)] [] I L Q := by
  refine x_iload 3 dL_faults_380 rfl ?_
  exact x_if_eq 407 dL_faults_382 (by decide) (fun h => x_sub [0, 1, 2] rfl (K1 h)) (fun h => x_sub [0, 1, 2] rfl (K2 h))
theorem bL_faults_385 {I : Nat → Nat → Int32} {L : Nat → Int64} {Q : Option Value → (Nat → Nat → Int32) → (Nat → Int64) → Prop} {v1 : Int64} {v3 : Int32}  (K : XS mX9_fault 0 [(0, .ref 0)] [] I L (fun r I' L' => XS mL_faults 389 [(0, .ref 0), (1, .long v1), (3, .int v3)] (r.toList ++ []) I' L' Q)) : XS mL_faults 385 [(0, .ref 0), (1, .long v1), (3, .int v3)] [] I L Q := by
  refine x_aload_n 0 dL_faults_385 rfl rfl ?_
  exact xs_callV mX9_fault [] [] 0 9 0 _ rfl dL_faults_386 ml_L_33 qX9_fault rfl ⟨Nat.le_of_ble_eq_true rfl, Nat.le_of_ble_eq_true rfl⟩ ⟨rfl, rfl⟩ (Nat.le_of_ble_eq_true rfl) sh_0 (by decide) rfl (Nat.le_of_ble_eq_true rfl) (K)
theorem bL_faults_389 {I : Nat → Nat → Int32} {L : Nat → Int64} {Q : Option Value → (Nat → Nat → Int32) → (Nat → Int64) → Prop} {v1 : Int64} {v3 : Int32} {s0 : Int32}  (K1 : (¬ s0 = (16 : Int32)) → XS mL_faults 407 [(0, .ref 0), (1, .long v1), (3, .int v3)] [] I L Q) (K2 : (s0 = (16 : Int32)) → XS mL_faults 394 [(0, .ref 0), (1, .long v1), (3, .int v3)] [] I L Q) : XS mL_faults 389 [(0, .ref 0), (1, .long v1), (3, .int v3)] [.int s0] I L Q := by
  refine x_bipush (v := (16 : Int32)) dL_faults_389 (by decide) ?_
  exact x_icmp_ne 407 dL_faults_391 (by decide) (fun h => K1 h) (fun h => K2 h)
theorem bL_faults_394 {I : Nat → Nat → Int32} {L : Nat → Int64} {Q : Option Value → (Nat → Nat → Int32) → (Nat → Int64) → Prop} {v1 : Int64} {v3 : Int32}  (K : XS mX9_erase 0 [(0, .ref 0)] [] I L (fun r I' L' => XS mL_faults 398 [(0, .ref 0), (1, .long v1), (3, .int v3)] (r.toList ++ []) I' L' Q)) : XS mL_faults 394 [(0, .ref 0), (1, .long v1), (3, .int v3)] [] I L Q := by
  refine x_aload_n 0 dL_faults_394 rfl rfl ?_
  exact xs_callV mX9_erase [] [] 0 9 0 _ rfl dL_faults_395 ml_L_19 qX9_erase rfl ⟨Nat.le_of_ble_eq_true rfl, Nat.le_of_ble_eq_true rfl⟩ ⟨rfl, rfl⟩ (Nat.le_of_ble_eq_true rfl) sh_0 (by decide) rfl (Nat.le_of_ble_eq_true rfl) (K)
theorem bL_faults_398 {I : Nat → Nat → Int32} {L : Nat → Int64} {Q : Option Value → (Nat → Nat → Int32) → (Nat → Int64) → Prop} {v1 : Int64} {v3 : Int32} {s0 : Int32}  (K1 : (¬ s0 = (20 : Int32)) → XS mL_faults 407 [(0, .ref 0), (1, .long v1), (3, .int v3)] [] I L Q) (K2 : (s0 = (20 : Int32)) → XS mL_faults 403 [(0, .ref 0), (1, .long v1), (3, .int v3)] [] I L Q) : XS mL_faults 398 [(0, .ref 0), (1, .long v1), (3, .int v3)] [.int s0] I L Q := by
  refine x_bipush (v := (20 : Int32)) dL_faults_398 (by decide) ?_
  exact x_icmp_ne 407 dL_faults_400 (by decide) (fun h => K1 h) (fun h => K2 h)
theorem bL_faults_403 {I : Nat → Nat → Int32} {L : Nat → Int64} {Q : Option Value → (Nat → Nat → Int32) → (Nat → Int64) → Prop} {v1 : Int64} {v3 : Int32}  (K : XS mL_faults 408 [(0, .ref 0), (1, .long v1), (3, .int v3)] [.int (1 : Int32)] I L Q) : XS mL_faults 403 [(0, .ref 0), (1, .long v1), (3, .int v3)] [] I L Q := by
  refine x_iconst (v := (1 : Int32)) dL_faults_403 (by decide) ?_
  exact x_goto 408 dL_faults_404 (by decide) (K)
theorem bL_faults_407 {I : Nat → Nat → Int32} {L : Nat → Int64} {Q : Option Value → (Nat → Nat → Int32) → (Nat → Int64) → Prop} {v1 : Int64} {v3 : Int32}  (K : XS mL_faults 408 [(0, .ref 0), (1, .long v1), (3, .int v3)] [.int (0 : Int32)] I L Q) : XS mL_faults 407 [(0, .ref 0), (1, .long v1), (3, .int v3)] [] I L Q := by
  refine x_iconst (v := (0 : Int32)) dL_faults_407 (by decide) ?_
  exact K
theorem bL_faults_408 {I : Nat → Nat → Int32} {L : Nat → Int64} {Q : Option Value → (Nat → Nat → Int32) → (Nat → Int64) → Prop} {v1 : Int64} {v3 : Int32} {s0 : Int32}  (K : XS mL_says 0 [(0, .ref 0), (1, .int (110 : Int32)), (2, .int (111 : Int32)), (3, .int (100 : Int32)), (4, .int (101 : Int32))] [] I L (fun r I' L' => XS mL_faults 422 [(0, .ref 0), (1, .long v1), (3, .int v3), (4, .int s0)] (r.toList ++ []) I' L' Q)) : XS mL_faults 408 [(0, .ref 0), (1, .long v1), (3, .int v3)] [.int s0] I L Q := by
  refine x_istore [(0, .ref 0), (1, .long v1), (3, .int v3), (4, .int s0)] dL_faults_408 (Nat.le_of_ble_eq_true rfl) rfl ?_
  refine x_aload_n 0 dL_faults_410 rfl rfl ?_
  refine x_bipush (v := (110 : Int32)) dL_faults_411 (by decide) ?_
  refine x_bipush (v := (111 : Int32)) dL_faults_413 (by decide) ?_
  refine x_bipush (v := (100 : Int32)) dL_faults_415 (by decide) ?_
  refine x_bipush (v := (101 : Int32)) dL_faults_417 (by decide) ?_
  exact xs_callS mL_says [.ref 0, .int (110 : Int32), .int (111 : Int32), .int (100 : Int32), .int (101 : Int32)] [] 5 _ rfl dL_faults_419 ml_L_25 qL_says rfl ⟨Nat.le_of_ble_eq_true rfl, Nat.le_of_ble_eq_true rfl⟩ ⟨rfl, rfl⟩ (Nat.le_of_ble_eq_true rfl) (Nat.le_of_ble_eq_true rfl) (K)
theorem bL_faults_422 {I : Nat → Nat → Int32} {L : Nat → Int64} {Q : Option Value → (Nat → Nat → Int32) → (Nat → Int64) → Prop} {v1 : Int64} {v3 : Int32} {v4 : Int32}  (K : XS mL_says 0 [(0, .ref 0), (1, .int (115 : Int32)), (2, .int (51 : Int32)), (3, .int (46 : Int32)), (4, .int (32 : Int32))] [] I L (fun r I' L' => XS mL_faults 434 [(0, .ref 0), (1, .long v1), (3, .int v3), (4, .int v4)] (r.toList ++ []) I' L' Q)) : XS mL_faults 422 [(0, .ref 0), (1, .long v1), (3, .int v3), (4, .int v4)] [] I L Q := by
  refine x_aload_n 0 dL_faults_422 rfl rfl ?_
  refine x_bipush (v := (115 : Int32)) dL_faults_423 (by decide) ?_
  refine x_bipush (v := (51 : Int32)) dL_faults_425 (by decide) ?_
  refine x_bipush (v := (46 : Int32)) dL_faults_427 (by decide) ?_
  refine x_bipush (v := (32 : Int32)) dL_faults_429 (by decide) ?_
  exact xs_callS mL_says [.ref 0, .int (115 : Int32), .int (51 : Int32), .int (46 : Int32), .int (32 : Int32)] [] 5 _ rfl dL_faults_431 ml_L_25 qL_says rfl ⟨Nat.le_of_ble_eq_true rfl, Nat.le_of_ble_eq_true rfl⟩ ⟨rfl, rfl⟩ (Nat.le_of_ble_eq_true rfl) (Nat.le_of_ble_eq_true rfl) (K)
theorem bL_faults_434 {I : Nat → Nat → Int32} {L : Nat → Int64} {Q : Option Value → (Nat → Nat → Int32) → (Nat → Int64) → Prop} {v1 : Int64} {v3 : Int32} {v4 : Int32}  (K1 : (v4 = 0) → XS mL_faults 461 [(0, .ref 0), (1, .long v1), (3, .int v3)] [] I L Q) (K2 : (¬ v4 = 0) → XS mL_faults 439 [(0, .ref 0), (1, .long v1), (3, .int v3)] [] I L Q) : XS mL_faults 434 [(0, .ref 0), (1, .long v1), (3, .int v3), (4, .int v4)] [] I L Q := by
  refine x_iload 3 dL_faults_434 rfl ?_
  exact x_if_eq 461 dL_faults_436 (by decide) (fun h => x_sub [0, 1, 2] rfl (K1 h)) (fun h => x_sub [0, 1, 2] rfl (K2 h))
theorem bL_faults_439 {I : Nat → Nat → Int32} {L : Nat → Int64} {Q : Option Value → (Nat → Nat → Int32) → (Nat → Int64) → Prop} {v1 : Int64} {v3 : Int32}  (K : XS mX9_fault 0 [(0, .ref 0)] [] I L (fun r I' L' => XS mL_faults 443 [(0, .ref 0), (1, .long v1), (3, .int v3)] (r.toList ++ []) I' L' Q)) : XS mL_faults 439 [(0, .ref 0), (1, .long v1), (3, .int v3)] [] I L Q := by
  refine x_aload_n 0 dL_faults_439 rfl rfl ?_
  exact xs_callV mX9_fault [] [] 0 9 0 _ rfl dL_faults_440 ml_L_33 qX9_fault rfl ⟨Nat.le_of_ble_eq_true rfl, Nat.le_of_ble_eq_true rfl⟩ ⟨rfl, rfl⟩ (Nat.le_of_ble_eq_true rfl) sh_0 (by decide) rfl (Nat.le_of_ble_eq_true rfl) (K)
theorem bL_faults_443 {I : Nat → Nat → Int32} {L : Nat → Int64} {Q : Option Value → (Nat → Nat → Int32) → (Nat → Int64) → Prop} {v1 : Int64} {v3 : Int32} {s0 : Int32}  (K1 : (¬ s0 = (6 : Int32)) → XS mL_faults 461 [(0, .ref 0), (1, .long v1), (3, .int v3)] [] I L Q) (K2 : (s0 = (6 : Int32)) → XS mL_faults 448 [(0, .ref 0), (1, .long v1), (3, .int v3)] [] I L Q) : XS mL_faults 443 [(0, .ref 0), (1, .long v1), (3, .int v3)] [.int s0] I L Q := by
  refine x_bipush (v := (6 : Int32)) dL_faults_443 (by decide) ?_
  exact x_icmp_ne 461 dL_faults_445 (by decide) (fun h => K1 h) (fun h => K2 h)
theorem bL_faults_448 {I : Nat → Nat → Int32} {L : Nat → Int64} {Q : Option Value → (Nat → Nat → Int32) → (Nat → Int64) → Prop} {v1 : Int64} {v3 : Int32}  (K : XS mX9_erase 0 [(0, .ref 0)] [] I L (fun r I' L' => XS mL_faults 452 [(0, .ref 0), (1, .long v1), (3, .int v3)] (r.toList ++ []) I' L' Q)) : XS mL_faults 448 [(0, .ref 0), (1, .long v1), (3, .int v3)] [] I L Q := by
  refine x_aload_n 0 dL_faults_448 rfl rfl ?_
  exact xs_callV mX9_erase [] [] 0 9 0 _ rfl dL_faults_449 ml_L_19 qX9_erase rfl ⟨Nat.le_of_ble_eq_true rfl, Nat.le_of_ble_eq_true rfl⟩ ⟨rfl, rfl⟩ (Nat.le_of_ble_eq_true rfl) sh_0 (by decide) rfl (Nat.le_of_ble_eq_true rfl) (K)
theorem bL_faults_452 {I : Nat → Nat → Int32} {L : Nat → Int64} {Q : Option Value → (Nat → Nat → Int32) → (Nat → Int64) → Prop} {v1 : Int64} {v3 : Int32} {s0 : Int32}  (K1 : (¬ s0 = (8 : Int32)) → XS mL_faults 461 [(0, .ref 0), (1, .long v1), (3, .int v3)] [] I L Q) (K2 : (s0 = (8 : Int32)) → XS mL_faults 457 [(0, .ref 0), (1, .long v1), (3, .int v3)] [] I L Q) : XS mL_faults 452 [(0, .ref 0), (1, .long v1), (3, .int v3)] [.int s0] I L Q := by
  refine x_bipush (v := (8 : Int32)) dL_faults_452 (by decide) ?_
  exact x_icmp_ne 461 dL_faults_454 (by decide) (fun h => K1 h) (fun h => K2 h)
theorem bL_faults_457 {I : Nat → Nat → Int32} {L : Nat → Int64} {Q : Option Value → (Nat → Nat → Int32) → (Nat → Int64) → Prop} {v1 : Int64} {v3 : Int32}  (K : XS mL_faults 462 [(0, .ref 0), (1, .long v1), (3, .int v3)] [.int (1 : Int32)] I L Q) : XS mL_faults 457 [(0, .ref 0), (1, .long v1), (3, .int v3)] [] I L Q := by
  refine x_iconst (v := (1 : Int32)) dL_faults_457 (by decide) ?_
  exact x_goto 462 dL_faults_458 (by decide) (K)
theorem bL_faults_461 {I : Nat → Nat → Int32} {L : Nat → Int64} {Q : Option Value → (Nat → Nat → Int32) → (Nat → Int64) → Prop} {v1 : Int64} {v3 : Int32}  (K : XS mL_faults 462 [(0, .ref 0), (1, .long v1), (3, .int v3)] [.int (0 : Int32)] I L Q) : XS mL_faults 461 [(0, .ref 0), (1, .long v1), (3, .int v3)] [] I L Q := by
  refine x_iconst (v := (0 : Int32)) dL_faults_461 (by decide) ?_
  exact K
theorem bL_faults_462 {I : Nat → Nat → Int32} {L : Nat → Int64} {Q : Option Value → (Nat → Nat → Int32) → (Nat → Int64) → Prop} {v1 : Int64} {v3 : Int32} {s0 : Int32}  (K : XS mL_says 0 [(0, .ref 0), (1, .int (110 : Int32)), (2, .int (111 : Int32)), (3, .int (100 : Int32)), (4, .int (101 : Int32))] [] I L (fun r I' L' => XS mL_faults 476 [(0, .ref 0), (1, .long v1), (3, .int v3), (4, .int s0)] (r.toList ++ []) I' L' Q)) : XS mL_faults 462 [(0, .ref 0), (1, .long v1), (3, .int v3)] [.int s0] I L Q := by
  refine x_istore [(0, .ref 0), (1, .long v1), (3, .int v3), (4, .int s0)] dL_faults_462 (Nat.le_of_ble_eq_true rfl) rfl ?_
  refine x_aload_n 0 dL_faults_464 rfl rfl ?_
  refine x_bipush (v := (110 : Int32)) dL_faults_465 (by decide) ?_
  refine x_bipush (v := (111 : Int32)) dL_faults_467 (by decide) ?_
  refine x_bipush (v := (100 : Int32)) dL_faults_469 (by decide) ?_
  refine x_bipush (v := (101 : Int32)) dL_faults_471 (by decide) ?_
  exact xs_callS mL_says [.ref 0, .int (110 : Int32), .int (111 : Int32), .int (100 : Int32), .int (101 : Int32)] [] 5 _ rfl dL_faults_473 ml_L_25 qL_says rfl ⟨Nat.le_of_ble_eq_true rfl, Nat.le_of_ble_eq_true rfl⟩ ⟨rfl, rfl⟩ (Nat.le_of_ble_eq_true rfl) (Nat.le_of_ble_eq_true rfl) (K)
theorem bL_faults_476 {I : Nat → Nat → Int32} {L : Nat → Int64} {Q : Option Value → (Nat → Nat → Int32) → (Nat → Int64) → Prop} {v1 : Int64} {v3 : Int32} {v4 : Int32}  (K : XS mL_says 0 [(0, .ref 0), (1, .int (51 : Int32)), (2, .int (32 : Int32)), (3, .int (32 : Int32)), (4, .int (32 : Int32))] [] I L (fun r I' L' => XS mL_faults 488 [(0, .ref 0), (1, .long v1), (3, .int v3), (4, .int v4)] (r.toList ++ []) I' L' Q)) : XS mL_faults 476 [(0, .ref 0), (1, .long v1), (3, .int v3), (4, .int v4)] [] I L Q := by
  refine x_aload_n 0 dL_faults_476 rfl rfl ?_
  refine x_bipush (v := (51 : Int32)) dL_faults_477 (by decide) ?_
  refine x_bipush (v := (32 : Int32)) dL_faults_479 (by decide) ?_
  refine x_bipush (v := (32 : Int32)) dL_faults_481 (by decide) ?_
  refine x_bipush (v := (32 : Int32)) dL_faults_483 (by decide) ?_
  exact xs_callS mL_says [.ref 0, .int (51 : Int32), .int (32 : Int32), .int (32 : Int32), .int (32 : Int32)] [] 5 _ rfl dL_faults_485 ml_L_25 qL_says rfl ⟨Nat.le_of_ble_eq_true rfl, Nat.le_of_ble_eq_true rfl⟩ ⟨rfl, rfl⟩ (Nat.le_of_ble_eq_true rfl) (Nat.le_of_ble_eq_true rfl) (K)
theorem bL_faults_488 {I : Nat → Nat → Int32} {L : Nat → Int64} {Q : Option Value → (Nat → Nat → Int32) → (Nat → Int64) → Prop} {v1 : Int64} {v3 : Int32} {v4 : Int32}  (K1 : (v4 = 0) → XS mL_faults 513 [(0, .ref 0), (1, .long v1), (3, .int v3)] [] I L Q) (K2 : (¬ v4 = 0) → XS mL_faults 493 [(0, .ref 0), (1, .long v1), (3, .int v3)] [] I L Q) : XS mL_faults 488 [(0, .ref 0), (1, .long v1), (3, .int v3), (4, .int v4)] [] I L Q := by
  refine x_iload 3 dL_faults_488 rfl ?_
  exact x_if_eq 513 dL_faults_490 (by decide) (fun h => x_sub [0, 1, 2] rfl (K1 h)) (fun h => x_sub [0, 1, 2] rfl (K2 h))
theorem bL_faults_493 {I : Nat → Nat → Int32} {L : Nat → Int64} {Q : Option Value → (Nat → Nat → Int32) → (Nat → Int64) → Prop} {v1 : Int64} {v3 : Int32}  (K : XS mX9_fault 0 [(0, .ref 0)] [] I L (fun r I' L' => XS mL_faults 497 [(0, .ref 0), (1, .long v1), (3, .int v3)] (r.toList ++ []) I' L' Q)) : XS mL_faults 493 [(0, .ref 0), (1, .long v1), (3, .int v3)] [] I L Q := by
  refine x_aload_n 0 dL_faults_493 rfl rfl ?_
  exact xs_callV mX9_fault [] [] 0 9 0 _ rfl dL_faults_494 ml_L_33 qX9_fault rfl ⟨Nat.le_of_ble_eq_true rfl, Nat.le_of_ble_eq_true rfl⟩ ⟨rfl, rfl⟩ (Nat.le_of_ble_eq_true rfl) sh_0 (by decide) rfl (Nat.le_of_ble_eq_true rfl) (K)
theorem bL_faults_497 {I : Nat → Nat → Int32} {L : Nat → Int64} {Q : Option Value → (Nat → Nat → Int32) → (Nat → Int64) → Prop} {v1 : Int64} {v3 : Int32} {s0 : Int32}  (K1 : (¬ s0 = 0) → XS mL_faults 513 [(0, .ref 0), (1, .long v1), (3, .int v3)] [] I L Q) (K2 : (s0 = 0) → XS mL_faults 500 [(0, .ref 0), (1, .long v1), (3, .int v3)] [] I L Q) : XS mL_faults 497 [(0, .ref 0), (1, .long v1), (3, .int v3)] [.int s0] I L Q := by
  exact x_if_ne 513 dL_faults_497 (by decide) (fun h => K1 h) (fun h => K2 h)
theorem bL_faults_500 {I : Nat → Nat → Int32} {L : Nat → Int64} {Q : Option Value → (Nat → Nat → Int32) → (Nat → Int64) → Prop} {v1 : Int64} {v3 : Int32}  (K : XS mX9_erase 0 [(0, .ref 0)] [] I L (fun r I' L' => XS mL_faults 504 [(0, .ref 0), (1, .long v1), (3, .int v3)] (r.toList ++ []) I' L' Q)) : XS mL_faults 500 [(0, .ref 0), (1, .long v1), (3, .int v3)] [] I L Q := by
  refine x_aload_n 0 dL_faults_500 rfl rfl ?_
  exact xs_callV mX9_erase [] [] 0 9 0 _ rfl dL_faults_501 ml_L_19 qX9_erase rfl ⟨Nat.le_of_ble_eq_true rfl, Nat.le_of_ble_eq_true rfl⟩ ⟨rfl, rfl⟩ (Nat.le_of_ble_eq_true rfl) sh_0 (by decide) rfl (Nat.le_of_ble_eq_true rfl) (K)
theorem bL_faults_504 {I : Nat → Nat → Int32} {L : Nat → Int64} {Q : Option Value → (Nat → Nat → Int32) → (Nat → Int64) → Prop} {v1 : Int64} {v3 : Int32} {s0 : Int32}  (K1 : (¬ s0 = (8 : Int32)) → XS mL_faults 513 [(0, .ref 0), (1, .long v1), (3, .int v3)] [] I L Q) (K2 : (s0 = (8 : Int32)) → XS mL_faults 509 [(0, .ref 0), (1, .long v1), (3, .int v3)] [] I L Q) : XS mL_faults 504 [(0, .ref 0), (1, .long v1), (3, .int v3)] [.int s0] I L Q := by
  refine x_bipush (v := (8 : Int32)) dL_faults_504 (by decide) ?_
  exact x_icmp_ne 513 dL_faults_506 (by decide) (fun h => K1 h) (fun h => K2 h)
theorem bL_faults_509 {I : Nat → Nat → Int32} {L : Nat → Int64} {Q : Option Value → (Nat → Nat → Int32) → (Nat → Int64) → Prop} {v1 : Int64} {v3 : Int32}  (K : XS mL_faults 514 [(0, .ref 0), (1, .long v1), (3, .int v3)] [.int (1 : Int32)] I L Q) : XS mL_faults 509 [(0, .ref 0), (1, .long v1), (3, .int v3)] [] I L Q := by
  refine x_iconst (v := (1 : Int32)) dL_faults_509 (by decide) ?_
  exact x_goto 514 dL_faults_510 (by decide) (K)
theorem bL_faults_513 {I : Nat → Nat → Int32} {L : Nat → Int64} {Q : Option Value → (Nat → Nat → Int32) → (Nat → Int64) → Prop} {v1 : Int64} {v3 : Int32}  (K : XS mL_faults 514 [(0, .ref 0), (1, .long v1), (3, .int v3)] [.int (0 : Int32)] I L Q) : XS mL_faults 513 [(0, .ref 0), (1, .long v1), (3, .int v3)] [] I L Q := by
  refine x_iconst (v := (0 : Int32)) dL_faults_513 (by decide) ?_
  exact K
theorem bL_faults_514 {I : Nat → Nat → Int32} {L : Nat → Int64} {Q : Option Value → (Nat → Nat → Int32) → (Nat → Int64) → Prop} {v1 : Int64} {v3 : Int32} {s0 : Int32}  (K : XS mL_says 0 [(0, .ref 0), (1, .int (110 : Int32)), (2, .int (111 : Int32)), (3, .int (100 : Int32)), (4, .int (101 : Int32))] [] I L (fun r I' L' => XS mL_faults 528 [(0, .ref 0), (1, .long v1), (3, .int v3), (4, .int s0)] (r.toList ++ []) I' L' Q)) : XS mL_faults 514 [(0, .ref 0), (1, .long v1), (3, .int v3)] [.int s0] I L Q := by
  refine x_istore [(0, .ref 0), (1, .long v1), (3, .int v3), (4, .int s0)] dL_faults_514 (Nat.le_of_ble_eq_true rfl) rfl ?_
  refine x_aload_n 0 dL_faults_516 rfl rfl ?_
  refine x_bipush (v := (110 : Int32)) dL_faults_517 (by decide) ?_
  refine x_bipush (v := (111 : Int32)) dL_faults_519 (by decide) ?_
  refine x_bipush (v := (100 : Int32)) dL_faults_521 (by decide) ?_
  refine x_bipush (v := (101 : Int32)) dL_faults_523 (by decide) ?_
  exact xs_callS mL_says [.ref 0, .int (110 : Int32), .int (111 : Int32), .int (100 : Int32), .int (101 : Int32)] [] 5 _ rfl dL_faults_525 ml_L_25 qL_says rfl ⟨Nat.le_of_ble_eq_true rfl, Nat.le_of_ble_eq_true rfl⟩ ⟨rfl, rfl⟩ (Nat.le_of_ble_eq_true rfl) (Nat.le_of_ble_eq_true rfl) (K)
theorem bL_faults_528 {I : Nat → Nat → Int32} {L : Nat → Int64} {Q : Option Value → (Nat → Nat → Int32) → (Nat → Int64) → Prop} {v1 : Int64} {v3 : Int32} {v4 : Int32}  (K : XS mL_says 0 [(0, .ref 0), (1, .int (115 : Int32)), (2, .int (56 : Int32)), (3, .int (32 : Int32)), (4, .int (32 : Int32))] [] I L (fun r I' L' => XS mL_faults 540 [(0, .ref 0), (1, .long v1), (3, .int v3), (4, .int v4)] (r.toList ++ []) I' L' Q)) : XS mL_faults 528 [(0, .ref 0), (1, .long v1), (3, .int v3), (4, .int v4)] [] I L Q := by
  refine x_aload_n 0 dL_faults_528 rfl rfl ?_
  refine x_bipush (v := (115 : Int32)) dL_faults_529 (by decide) ?_
  refine x_bipush (v := (56 : Int32)) dL_faults_531 (by decide) ?_
  refine x_bipush (v := (32 : Int32)) dL_faults_533 (by decide) ?_
  refine x_bipush (v := (32 : Int32)) dL_faults_535 (by decide) ?_
  exact xs_callS mL_says [.ref 0, .int (115 : Int32), .int (56 : Int32), .int (32 : Int32), .int (32 : Int32)] [] 5 _ rfl dL_faults_537 ml_L_25 qL_says rfl ⟨Nat.le_of_ble_eq_true rfl, Nat.le_of_ble_eq_true rfl⟩ ⟨rfl, rfl⟩ (Nat.le_of_ble_eq_true rfl) (Nat.le_of_ble_eq_true rfl) (K)
theorem bL_faults_540 {I : Nat → Nat → Int32} {L : Nat → Int64} {Q : Option Value → (Nat → Nat → Int32) → (Nat → Int64) → Prop} {v1 : Int64} {v3 : Int32} {v4 : Int32}  (K : XS mL_faults 543 [(0, .ref 0), (1, .long v1), (3, .int v3), (4, .int v4), (5, .int (0 : Int32))] [] I L Q) : XS mL_faults 540 [(0, .ref 0), (1, .long v1), (3, .int v3), (4, .int v4)] [] I L Q := by
  refine x_iconst (v := (0 : Int32)) dL_faults_540 (by decide) ?_
  refine x_istore [(0, .ref 0), (1, .long v1), (3, .int v3), (4, .int v4), (5, .int (0 : Int32))] dL_faults_541 (Nat.le_of_ble_eq_true rfl) rfl ?_
  exact K
theorem bL_faults_543 {I : Nat → Nat → Int32} {L : Nat → Int64} {Q : Option Value → (Nat → Nat → Int32) → (Nat → Int64) → Prop} {v1 : Int64} {v3 : Int32} {v4 : Int32} {v5 : Int32}  (K1 : ((14 : Int32) ≤ v5) → XS mL_faults 623 [(0, .ref 0), (1, .long v1), (3, .int v3), (4, .int v4)] [] I L Q) (K2 : (¬ (14 : Int32) ≤ v5) → XS mL_faults 550 [(0, .ref 0), (1, .long v1), (3, .int v3), (4, .int v4), (5, .int v5)] [] I L Q) : XS mL_faults 543 [(0, .ref 0), (1, .long v1), (3, .int v3), (4, .int v4), (5, .int v5)] [] I L Q := by
  refine x_iload 4 dL_faults_543 rfl ?_
  refine x_bipush (v := (14 : Int32)) dL_faults_545 (by decide) ?_
  exact x_icmp_ge 623 dL_faults_547 (by decide) (fun h => x_sub [0, 1, 2, 3] rfl (K1 h)) (fun h => K2 h)
theorem bL_faults_550 {I : Nat → Nat → Int32} {L : Nat → Int64} {Q : Option Value → (Nat → Nat → Int32) → (Nat → Int64) → Prop} {v1 : Int64} {v3 : Int32} {v4 : Int32} {v5 : Int32}  (K : XS mL_says 0 [(0, .ref 0), (1, .int (59 : Int32)), (2, .int (108 : Int32)), (3, .int (105 : Int32)), (4, .int (110 : Int32))] [] I L (fun r I' L' => XS mL_faults 562 [(0, .ref 0), (1, .long v1), (3, .int v3), (4, .int v4), (5, .int v5)] (r.toList ++ []) I' L' Q)) : XS mL_faults 550 [(0, .ref 0), (1, .long v1), (3, .int v3), (4, .int v4), (5, .int v5)] [] I L Q := by
  refine x_aload_n 0 dL_faults_550 rfl rfl ?_
  refine x_bipush (v := (59 : Int32)) dL_faults_551 (by decide) ?_
  refine x_bipush (v := (108 : Int32)) dL_faults_553 (by decide) ?_
  refine x_bipush (v := (105 : Int32)) dL_faults_555 (by decide) ?_
  refine x_bipush (v := (110 : Int32)) dL_faults_557 (by decide) ?_
  exact xs_callS mL_says [.ref 0, .int (59 : Int32), .int (108 : Int32), .int (105 : Int32), .int (110 : Int32)] [] 5 _ rfl dL_faults_559 ml_L_25 qL_says rfl ⟨Nat.le_of_ble_eq_true rfl, Nat.le_of_ble_eq_true rfl⟩ ⟨rfl, rfl⟩ (Nat.le_of_ble_eq_true rfl) (Nat.le_of_ble_eq_true rfl) (K)
theorem bL_faults_562 {I : Nat → Nat → Int32} {L : Nat → Int64} {Q : Option Value → (Nat → Nat → Int32) → (Nat → Int64) → Prop} {v1 : Int64} {v3 : Int32} {v4 : Int32} {v5 : Int32}  (K1 : ((7 : Int32) ≤ v5) → XS mL_faults 578 [(0, .ref 0), (1, .long v1), (3, .int v3), (4, .int v4), (5, .int v5)] [.int (48 : Int32), .int (107 : Int32), .ref 0] I L Q) (K2 : (¬ (7 : Int32) ≤ v5) → XS mL_faults 574 [(0, .ref 0), (1, .long v1), (3, .int v3), (4, .int v4), (5, .int v5)] [.int (48 : Int32), .int (107 : Int32), .ref 0] I L Q) : XS mL_faults 562 [(0, .ref 0), (1, .long v1), (3, .int v3), (4, .int v4), (5, .int v5)] [] I L Q := by
  refine x_aload_n 0 dL_faults_562 rfl rfl ?_
  refine x_bipush (v := (107 : Int32)) dL_faults_563 (by decide) ?_
  refine x_bipush (v := (48 : Int32)) dL_faults_565 (by decide) ?_
  refine x_iload 4 dL_faults_567 rfl ?_
  refine x_bipush (v := (7 : Int32)) dL_faults_569 (by decide) ?_
  exact x_icmp_ge 578 dL_faults_571 (by decide) (fun h => K1 h) (fun h => K2 h)
theorem bL_faults_574 {I : Nat → Nat → Int32} {L : Nat → Int64} {Q : Option Value → (Nat → Nat → Int32) → (Nat → Int64) → Prop} {v1 : Int64} {v3 : Int32} {v4 : Int32} {v5 : Int32} {s1 : Int32} {s2 : Int32}  (K : XS mL_faults 579 [(0, .ref 0), (1, .long v1), (3, .int v3), (4, .int v4), (5, .int v5)] [.int (0 : Int32), .int s2, .int s1, .ref 0] I L Q) : XS mL_faults 574 [(0, .ref 0), (1, .long v1), (3, .int v3), (4, .int v4), (5, .int v5)] [.int s2, .int s1, .ref 0] I L Q := by
  refine x_iconst (v := (0 : Int32)) dL_faults_574 (by decide) ?_
  exact x_goto 579 dL_faults_575 (by decide) (K)
theorem bL_faults_578 {I : Nat → Nat → Int32} {L : Nat → Int64} {Q : Option Value → (Nat → Nat → Int32) → (Nat → Int64) → Prop} {v1 : Int64} {v3 : Int32} {v4 : Int32} {v5 : Int32} {s1 : Int32} {s2 : Int32}  (K : XS mL_faults 579 [(0, .ref 0), (1, .long v1), (3, .int v3), (4, .int v4), (5, .int v5)] [.int (1 : Int32), .int s2, .int s1, .ref 0] I L Q) : XS mL_faults 578 [(0, .ref 0), (1, .long v1), (3, .int v3), (4, .int v4), (5, .int v5)] [.int s2, .int s1, .ref 0] I L Q := by
  refine x_iconst (v := (1 : Int32)) dL_faults_578 (by decide) ?_
  exact K
theorem bL_faults_579 {I : Nat → Nat → Int32} {L : Nat → Int64} {Q : Option Value → (Nat → Nat → Int32) → (Nat → Int64) → Prop} {v1 : Int64} {v3 : Int32} {v4 : Int32} {v5 : Int32} {s1 : Int32} {s2 : Int32} {s3 : Int32}  (K1 : ((7 : Int32) ≤ v5) → XS mL_faults 597 [(0, .ref 0), (1, .long v1), (3, .int v3), (4, .int v4), (5, .int v5)] [.int (32 : Int32), .int (s2 + s3), .int s1, .ref 0] I L Q) (K2 : (¬ (7 : Int32) ≤ v5) → XS mL_faults 589 [(0, .ref 0), (1, .long v1), (3, .int v3), (4, .int v4), (5, .int v5)] [.int (32 : Int32), .int (s2 + s3), .int s1, .ref 0] I L Q) : XS mL_faults 579 [(0, .ref 0), (1, .long v1), (3, .int v3), (4, .int v4), (5, .int v5)] [.int s3, .int s2, .int s1, .ref 0] I L Q := by
  refine x_iadd dL_faults_579 ?_
  refine x_bipush (v := (32 : Int32)) dL_faults_580 (by decide) ?_
  refine x_iload 4 dL_faults_582 rfl ?_
  refine x_bipush (v := (7 : Int32)) dL_faults_584 (by decide) ?_
  exact x_icmp_ge 597 dL_faults_586 (by decide) (fun h => K1 h) (fun h => K2 h)
theorem bL_faults_589 {I : Nat → Nat → Int32} {L : Nat → Int64} {Q : Option Value → (Nat → Nat → Int32) → (Nat → Int64) → Prop} {v1 : Int64} {v3 : Int32} {v4 : Int32} {v5 : Int32} {s1 : Int32} {s2 : Int32} {s3 : Int32}  (K : XS mL_faults 602 [(0, .ref 0), (1, .long v1), (3, .int v3), (4, .int v4), (5, .int v5)] [.int ((49 : Int32) + v5), .int s3, .int s2, .int s1, .ref 0] I L Q) : XS mL_faults 589 [(0, .ref 0), (1, .long v1), (3, .int v3), (4, .int v4), (5, .int v5)] [.int s3, .int s2, .int s1, .ref 0] I L Q := by
  refine x_bipush (v := (49 : Int32)) dL_faults_589 (by decide) ?_
  refine x_iload 4 dL_faults_591 rfl ?_
  refine x_iadd dL_faults_593 ?_
  exact x_goto 602 dL_faults_594 (by decide) (K)
theorem bL_faults_597 {I : Nat → Nat → Int32} {L : Nat → Int64} {Q : Option Value → (Nat → Nat → Int32) → (Nat → Int64) → Prop} {v1 : Int64} {v3 : Int32} {v4 : Int32} {v5 : Int32} {s1 : Int32} {s2 : Int32} {s3 : Int32}  (K : XS mL_faults 602 [(0, .ref 0), (1, .long v1), (3, .int v3), (4, .int v4), (5, .int v5)] [.int ((43 : Int32) + v5), .int s3, .int s2, .int s1, .ref 0] I L Q) : XS mL_faults 597 [(0, .ref 0), (1, .long v1), (3, .int v3), (4, .int v4), (5, .int v5)] [.int s3, .int s2, .int s1, .ref 0] I L Q := by
  refine x_bipush (v := (43 : Int32)) dL_faults_597 (by decide) ?_
  refine x_iload 4 dL_faults_599 rfl ?_
  refine x_iadd dL_faults_601 ?_
  exact K
theorem bL_faults_602 {I : Nat → Nat → Int32} {L : Nat → Int64} {Q : Option Value → (Nat → Nat → Int32) → (Nat → Int64) → Prop} {v1 : Int64} {v3 : Int32} {v4 : Int32} {v5 : Int32} {s1 : Int32} {s2 : Int32} {s3 : Int32} {s4 : Int32}  (K : XS mL_says 0 [(0, .ref 0), (1, .int s1), (2, .int s2), (3, .int s3), (4, .int s4)] [] I L (fun r I' L' => XS mL_faults 605 [(0, .ref 0), (1, .long v1), (3, .int v3), (4, .int v4), (5, .int v5)] (r.toList ++ []) I' L' Q)) : XS mL_faults 602 [(0, .ref 0), (1, .long v1), (3, .int v3), (4, .int v4), (5, .int v5)] [.int s4, .int s3, .int s2, .int s1, .ref 0] I L Q := by
  exact xs_callS mL_says [.ref 0, .int s1, .int s2, .int s3, .int s4] [] 5 _ rfl dL_faults_602 ml_L_25 qL_says rfl ⟨Nat.le_of_ble_eq_true rfl, Nat.le_of_ble_eq_true rfl⟩ ⟨rfl, rfl⟩ (Nat.le_of_ble_eq_true rfl) (Nat.le_of_ble_eq_true rfl) (K)
theorem bL_faults_605 {I : Nat → Nat → Int32} {L : Nat → Int64} {Q : Option Value → (Nat → Nat → Int32) → (Nat → Int64) → Prop} {v1 : Int64} {v3 : Int32} {v4 : Int32} {v5 : Int32}  (K : XS mL_says 0 [(0, .ref 0), (1, .int (32 : Int32)), (2, .int (49 : Int32)), (3, .int (32 : Int32)), (4, .int (49 : Int32))] [] I L (fun r I' L' => XS mL_faults 617 [(0, .ref 0), (1, .long v1), (3, .int v3), (4, .int v4), (5, .int v5)] (r.toList ++ []) I' L' Q)) : XS mL_faults 605 [(0, .ref 0), (1, .long v1), (3, .int v3), (4, .int v4), (5, .int v5)] [] I L Q := by
  refine x_aload_n 0 dL_faults_605 rfl rfl ?_
  refine x_bipush (v := (32 : Int32)) dL_faults_606 (by decide) ?_
  refine x_bipush (v := (49 : Int32)) dL_faults_608 (by decide) ?_
  refine x_bipush (v := (32 : Int32)) dL_faults_610 (by decide) ?_
  refine x_bipush (v := (49 : Int32)) dL_faults_612 (by decide) ?_
  exact xs_callS mL_says [.ref 0, .int (32 : Int32), .int (49 : Int32), .int (32 : Int32), .int (49 : Int32)] [] 5 _ rfl dL_faults_614 ml_L_25 qL_says rfl ⟨Nat.le_of_ble_eq_true rfl, Nat.le_of_ble_eq_true rfl⟩ ⟨rfl, rfl⟩ (Nat.le_of_ble_eq_true rfl) (Nat.le_of_ble_eq_true rfl) (K)
theorem bL_faults_617 {I : Nat → Nat → Int32} {L : Nat → Int64} {Q : Option Value → (Nat → Nat → Int32) → (Nat → Int64) → Prop} {v1 : Int64} {v3 : Int32} {v4 : Int32} {v5 : Int32}  (K : XS mL_faults 543 [(0, .ref 0), (1, .long v1), (3, .int v3), (4, .int v4), (5, .int (v5 + (1 : Int32)))] [] I L Q) : XS mL_faults 617 [(0, .ref 0), (1, .long v1), (3, .int v3), (4, .int v4), (5, .int v5)] [] I L Q := by
  refine x_iinc 4 (v5 + (1 : Int32)) [(0, .ref 0), (1, .long v1), (3, .int v3), (4, .int v4), (5, .int (v5 + (1 : Int32)))] dL_faults_617 rfl rfl (Nat.le_of_ble_eq_true rfl) rfl ?_
  exact x_goto 543 dL_faults_620 (by decide) (K)
theorem bL_faults_623 {I : Nat → Nat → Int32} {L : Nat → Int64} {Q : Option Value → (Nat → Nat → Int32) → (Nat → Int64) → Prop} {v1 : Int64} {v3 : Int32} {v4 : Int32}  (K1 : (v4 = 0) → XS mL_faults 654 [(0, .ref 0), (1, .long v1), (3, .int v3)] [] I L Q) (K2 : (¬ v4 = 0) → XS mL_faults 628 [(0, .ref 0), (1, .long v1), (3, .int v3)] [] I L Q) : XS mL_faults 623 [(0, .ref 0), (1, .long v1), (3, .int v3), (4, .int v4)] [] I L Q := by
  refine x_iload 3 dL_faults_623 rfl ?_
  exact x_if_eq 654 dL_faults_625 (by decide) (fun h => x_sub [0, 1, 2] rfl (K1 h)) (fun h => x_sub [0, 1, 2] rfl (K2 h))
theorem bL_faults_628 {I : Nat → Nat → Int32} {L : Nat → Int64} {Q : Option Value → (Nat → Nat → Int32) → (Nat → Int64) → Prop} {v1 : Int64} {v3 : Int32}  (K : XS mX9_count 0 [(0, .ref 0), (1, .int (12 : Int32))] [] I L (fun r I' L' => XS mL_faults 634 [(0, .ref 0), (1, .long v1), (3, .int v3)] (r.toList ++ []) I' L' Q)) : XS mL_faults 628 [(0, .ref 0), (1, .long v1), (3, .int v3)] [] I L Q := by
  refine x_aload_n 0 dL_faults_628 rfl rfl ?_
  refine x_bipush (v := (12 : Int32)) dL_faults_629 (by decide) ?_
  exact xs_callV mX9_count [.int (12 : Int32)] [] 0 9 1 _ rfl dL_faults_631 ml_L_39 qX9_count rfl ⟨Nat.le_of_ble_eq_true rfl, Nat.le_of_ble_eq_true rfl⟩ ⟨rfl, rfl⟩ (Nat.le_of_ble_eq_true rfl) sh_0 (by decide) rfl (Nat.le_of_ble_eq_true rfl) (K)
theorem bL_faults_634 {I : Nat → Nat → Int32} {L : Nat → Int64} {Q : Option Value → (Nat → Nat → Int32) → (Nat → Int64) → Prop} {v1 : Int64} {v3 : Int32} {s0 : Int32}  (K1 : (¬ s0 = (176 : Int32)) → XS mL_faults 654 [(0, .ref 0), (1, .long v1), (3, .int v3)] [] I L Q) (K2 : (s0 = (176 : Int32)) → XS mL_faults 640 [(0, .ref 0), (1, .long v1), (3, .int v3)] [] I L Q) : XS mL_faults 634 [(0, .ref 0), (1, .long v1), (3, .int v3)] [.int s0] I L Q := by
  refine x_sipush (v := (176 : Int32)) dL_faults_634 (by decide) ?_
  exact x_icmp_ne 654 dL_faults_637 (by decide) (fun h => K1 h) (fun h => K2 h)
theorem bL_faults_640 {I : Nat → Nat → Int32} {L : Nat → Int64} {Q : Option Value → (Nat → Nat → Int32) → (Nat → Int64) → Prop} {v1 : Int64} {v3 : Int32}  (K : XS mX9_fault 0 [(0, .ref 0)] [] I L (fun r I' L' => XS mL_faults 644 [(0, .ref 0), (1, .long v1), (3, .int v3)] (r.toList ++ []) I' L' Q)) : XS mL_faults 640 [(0, .ref 0), (1, .long v1), (3, .int v3)] [] I L Q := by
  refine x_aload_n 0 dL_faults_640 rfl rfl ?_
  exact xs_callV mX9_fault [] [] 0 9 0 _ rfl dL_faults_641 ml_L_33 qX9_fault rfl ⟨Nat.le_of_ble_eq_true rfl, Nat.le_of_ble_eq_true rfl⟩ ⟨rfl, rfl⟩ (Nat.le_of_ble_eq_true rfl) sh_0 (by decide) rfl (Nat.le_of_ble_eq_true rfl) (K)
theorem bL_faults_644 {I : Nat → Nat → Int32} {L : Nat → Int64} {Q : Option Value → (Nat → Nat → Int32) → (Nat → Int64) → Prop} {v1 : Int64} {v3 : Int32} {s0 : Int32}  (K1 : (¬ s0 = (171 : Int32)) → XS mL_faults 654 [(0, .ref 0), (1, .long v1), (3, .int v3)] [] I L Q) (K2 : (s0 = (171 : Int32)) → XS mL_faults 650 [(0, .ref 0), (1, .long v1), (3, .int v3)] [] I L Q) : XS mL_faults 644 [(0, .ref 0), (1, .long v1), (3, .int v3)] [.int s0] I L Q := by
  refine x_sipush (v := (171 : Int32)) dL_faults_644 (by decide) ?_
  exact x_icmp_ne 654 dL_faults_647 (by decide) (fun h => K1 h) (fun h => K2 h)
theorem bL_faults_650 {I : Nat → Nat → Int32} {L : Nat → Int64} {Q : Option Value → (Nat → Nat → Int32) → (Nat → Int64) → Prop} {v1 : Int64} {v3 : Int32}  (K : XS mL_faults 655 [(0, .ref 0), (1, .long v1), (3, .int v3)] [.int (1 : Int32)] I L Q) : XS mL_faults 650 [(0, .ref 0), (1, .long v1), (3, .int v3)] [] I L Q := by
  refine x_iconst (v := (1 : Int32)) dL_faults_650 (by decide) ?_
  exact x_goto 655 dL_faults_651 (by decide) (K)
theorem bL_faults_654 {I : Nat → Nat → Int32} {L : Nat → Int64} {Q : Option Value → (Nat → Nat → Int32) → (Nat → Int64) → Prop} {v1 : Int64} {v3 : Int32}  (K : XS mL_faults 655 [(0, .ref 0), (1, .long v1), (3, .int v3)] [.int (0 : Int32)] I L Q) : XS mL_faults 654 [(0, .ref 0), (1, .long v1), (3, .int v3)] [] I L Q := by
  refine x_iconst (v := (0 : Int32)) dL_faults_654 (by decide) ?_
  exact K
theorem bL_faults_655 {I : Nat → Nat → Int32} {L : Nat → Int64} {Q : Option Value → (Nat → Nat → Int32) → (Nat → Int64) → Prop} {v1 : Int64} {v3 : Int32} {s0 : Int32}  (K : XS mX9_erase 0 [(0, .ref 0)] [] I L (fun r I' L' => XS mL_faults 661 [(0, .ref 0), (1, .long v1), (3, .int v3), (4, .int s0)] (r.toList ++ []) I' L' Q)) : XS mL_faults 655 [(0, .ref 0), (1, .long v1), (3, .int v3)] [.int s0] I L Q := by
  refine x_istore [(0, .ref 0), (1, .long v1), (3, .int v3), (4, .int s0)] dL_faults_655 (Nat.le_of_ble_eq_true rfl) rfl ?_
  refine x_aload_n 0 dL_faults_657 rfl rfl ?_
  exact xs_callV mX9_erase [] [] 0 9 0 _ rfl dL_faults_658 ml_L_19 qX9_erase rfl ⟨Nat.le_of_ble_eq_true rfl, Nat.le_of_ble_eq_true rfl⟩ ⟨rfl, rfl⟩ (Nat.le_of_ble_eq_true rfl) sh_0 (by decide) rfl (Nat.le_of_ble_eq_true rfl) (K)
theorem bL_faults_661 {I : Nat → Nat → Int32} {L : Nat → Int64} {Q : Option Value → (Nat → Nat → Int32) → (Nat → Int64) → Prop} {v1 : Int64} {v3 : Int32} {v4 : Int32} {s0 : Int32}  (K1 : (v4 = 0) → XS mL_faults 712 [] [] I L Q) (K2 : (¬ v4 = 0) → XS mL_faults 667 [(0, .ref 0), (1, .long v1), (3, .int v3)] [] I L Q) : XS mL_faults 661 [(0, .ref 0), (1, .long v1), (3, .int v3), (4, .int v4)] [.int s0] I L Q := by
  refine x_pop dL_faults_661 rfl ?_
  refine x_iload 3 dL_faults_662 rfl ?_
  exact x_if_eq 712 dL_faults_664 (by decide) (fun h => x_sub [] rfl (K1 h)) (fun h => x_sub [0, 1, 2] rfl (K2 h))
theorem bL_faults_667 {I : Nat → Nat → Int32} {L : Nat → Int64} {Q : Option Value → (Nat → Nat → Int32) → (Nat → Int64) → Prop} {v1 : Int64} {v3 : Int32}  (K : XS mX9_write 0 [(0, .ref 0), (1, .int (256 : Int32))] [] I L (fun r I' L' => XS mL_faults 674 [(0, .ref 0), (1, .long v1), (3, .int v3)] (r.toList ++ []) I' L' Q)) : XS mL_faults 667 [(0, .ref 0), (1, .long v1), (3, .int v3)] [] I L Q := by
  refine x_aload_n 0 dL_faults_667 rfl rfl ?_
  refine x_sipush (v := (256 : Int32)) dL_faults_668 (by decide) ?_
  exact xs_callV mX9_write [.int (256 : Int32)] [] 0 9 1 _ rfl dL_faults_671 ml_L_43 qX9_write rfl ⟨Nat.le_of_ble_eq_true rfl, Nat.le_of_ble_eq_true rfl⟩ ⟨rfl, rfl⟩ (Nat.le_of_ble_eq_true rfl) sh_0 (by decide) rfl (Nat.le_of_ble_eq_true rfl) (K)
theorem bL_faults_674 {I : Nat → Nat → Int32} {L : Nat → Int64} {Q : Option Value → (Nat → Nat → Int32) → (Nat → Int64) → Prop} {v1 : Int64} {v3 : Int32} {s0 : Int32}  (K1 : (¬ s0 = (-3 : Int32)) → XS mL_faults 712 [] [] I L Q) (K2 : (s0 = (-3 : Int32)) → XS mL_faults 679 [(0, .ref 0), (1, .long v1), (3, .int v3)] [] I L Q) : XS mL_faults 674 [(0, .ref 0), (1, .long v1), (3, .int v3)] [.int s0] I L Q := by
  refine x_bipush (v := (-3 : Int32)) dL_faults_674 (by decide) ?_
  exact x_icmp_ne 712 dL_faults_676 (by decide) (fun h => x_sub [] rfl (K1 h)) (fun h => K2 h)
theorem bL_faults_679 {I : Nat → Nat → Int32} {L : Nat → Int64} {Q : Option Value → (Nat → Nat → Int32) → (Nat → Int64) → Prop} {v1 : Int64} {v3 : Int32}  (K : XS mX9_write 0 [(0, .ref 0), (1, .int (-1 : Int32))] [] I L (fun r I' L' => XS mL_faults 684 [(0, .ref 0), (1, .long v1), (3, .int v3)] (r.toList ++ []) I' L' Q)) : XS mL_faults 679 [(0, .ref 0), (1, .long v1), (3, .int v3)] [] I L Q := by
  refine x_aload_n 0 dL_faults_679 rfl rfl ?_
  refine x_iconst (v := (-1 : Int32)) dL_faults_680 (by decide) ?_
  exact xs_callV mX9_write [.int (-1 : Int32)] [] 0 9 1 _ rfl dL_faults_681 ml_L_43 qX9_write rfl ⟨Nat.le_of_ble_eq_true rfl, Nat.le_of_ble_eq_true rfl⟩ ⟨rfl, rfl⟩ (Nat.le_of_ble_eq_true rfl) sh_0 (by decide) rfl (Nat.le_of_ble_eq_true rfl) (K)
theorem bL_faults_684 {I : Nat → Nat → Int32} {L : Nat → Int64} {Q : Option Value → (Nat → Nat → Int32) → (Nat → Int64) → Prop} {v1 : Int64} {v3 : Int32} {s0 : Int32}  (K1 : (¬ s0 = (-3 : Int32)) → XS mL_faults 712 [] [] I L Q) (K2 : (s0 = (-3 : Int32)) → XS mL_faults 689 [(0, .ref 0), (1, .long v1), (3, .int v3)] [] I L Q) : XS mL_faults 684 [(0, .ref 0), (1, .long v1), (3, .int v3)] [.int s0] I L Q := by
  refine x_bipush (v := (-3 : Int32)) dL_faults_684 (by decide) ?_
  exact x_icmp_ne 712 dL_faults_686 (by decide) (fun h => x_sub [] rfl (K1 h)) (fun h => K2 h)
theorem bL_faults_689 {I : Nat → Nat → Int32} {L : Nat → Int64} {Q : Option Value → (Nat → Nat → Int32) → (Nat → Int64) → Prop} {v1 : Int64} {v3 : Int32}  (K : XS mL_whole 0 [(0, .ref 0)] [] I L (fun r I' L' => XS mL_faults 693 [(0, .ref 0), (1, .long v1), (3, .int v3)] (r.toList ++ []) I' L' Q)) : XS mL_faults 689 [(0, .ref 0), (1, .long v1), (3, .int v3)] [] I L Q := by
  refine x_aload_n 0 dL_faults_689 rfl rfl ?_
  exact xs_callS mL_whole [.ref 0] [] 1 _ rfl dL_faults_690 ml_L_68 qL_whole rfl ⟨Nat.le_of_ble_eq_true rfl, Nat.le_of_ble_eq_true rfl⟩ ⟨rfl, rfl⟩ (Nat.le_of_ble_eq_true rfl) (Nat.le_of_ble_eq_true rfl) (K)
theorem bL_faults_693 {I : Nat → Nat → Int32} {L : Nat → Int64} {Q : Option Value → (Nat → Nat → Int32) → (Nat → Int64) → Prop} {v1 : Int64} {v3 : Int32} {s0 : Int64}  (K1 : (¬ (lg_cmp s0 v1) = 0) → XS mL_faults 712 [] [] I L Q) (K2 : ((lg_cmp s0 v1) = 0) → XS mL_faults 698 [(0, .ref 0), (3, .int v3)] [] I L Q) : XS mL_faults 693 [(0, .ref 0), (1, .long v1), (3, .int v3)] [.long s0] I L Q := by
  refine x_lload_n 1 dL_faults_693 rfl rfl ?_
  refine x_lcmp dL_faults_694 ?_
  exact x_if_ne 712 dL_faults_695 (by decide) (fun h => x_sub [] rfl (K1 h)) (fun h => x_sub [0, 2] rfl (K2 h))
theorem bL_faults_698 {I : Nat → Nat → Int32} {L : Nat → Int64} {Q : Option Value → (Nat → Nat → Int32) → (Nat → Int64) → Prop} {v3 : Int32}  (K : XS mX9_count 0 [(0, .ref 0), (1, .int (11 : Int32))] [] I L (fun r I' L' => XS mL_faults 704 [(3, .int v3)] (r.toList ++ []) I' L' Q)) : XS mL_faults 698 [(0, .ref 0), (3, .int v3)] [] I L Q := by
  refine x_aload_n 0 dL_faults_698 rfl rfl ?_
  refine x_bipush (v := (11 : Int32)) dL_faults_699 (by decide) ?_
  refine x_sub [1] rfl ?_
  exact xs_callV mX9_count [.int (11 : Int32)] [] 0 9 1 _ rfl dL_faults_701 ml_L_39 qX9_count rfl ⟨Nat.le_of_ble_eq_true rfl, Nat.le_of_ble_eq_true rfl⟩ ⟨rfl, rfl⟩ (Nat.le_of_ble_eq_true rfl) sh_0 (by decide) rfl (Nat.le_of_ble_eq_true rfl) (K)
theorem bL_faults_704 {I : Nat → Nat → Int32} {L : Nat → Int64} {Q : Option Value → (Nat → Nat → Int32) → (Nat → Int64) → Prop} {v3 : Int32} {s0 : Int32}  (K1 : (¬ s0 = v3) → XS mL_faults 712 [] [] I L Q) (K2 : (s0 = v3) → XS mL_faults 708 [] [] I L Q) : XS mL_faults 704 [(3, .int v3)] [.int s0] I L Q := by
  refine x_iload_n 0 dL_faults_704 rfl rfl ?_
  exact x_icmp_ne 712 dL_faults_705 (by decide) (fun h => x_sub [] rfl (K1 h)) (fun h => x_sub [] rfl (K2 h))
theorem bL_faults_708 {I : Nat → Nat → Int32} {L : Nat → Int64} {Q : Option Value → (Nat → Nat → Int32) → (Nat → Int64) → Prop}   (K : XS mL_faults 713 [] [.int (1 : Int32)] I L Q) : XS mL_faults 708 [] [] I L Q := by
  refine x_iconst (v := (1 : Int32)) dL_faults_708 (by decide) ?_
  exact x_goto 713 dL_faults_709 (by decide) (K)
theorem bL_faults_712 {I : Nat → Nat → Int32} {L : Nat → Int64} {Q : Option Value → (Nat → Nat → Int32) → (Nat → Int64) → Prop}   (K : XS mL_faults 713 [] [.int (0 : Int32)] I L Q) : XS mL_faults 712 [] [] I L Q := by
  refine x_iconst (v := (0 : Int32)) dL_faults_712 (by decide) ?_
  exact K
theorem bL_faults_713 {I : Nat → Nat → Int32} {L : Nat → Int64} {Q : Option Value → (Nat → Nat → Int32) → (Nat → Int64) → Prop} {s0 : Int32} (hz1 : s0 = 0 ∨ s0 = 1) (K : Q (some (.int s0)) I L) : XS mL_faults 713 [] [.int s0] I L Q := by
  exact xs_iret dL_faults_713 rfl (x_nar _ hz1) K
theorem bL_most_0 {I : Nat → Nat → Int32} {L : Nat → Int64} {Q : Option Value → (Nat → Nat → Int32) → (Nat → Int64) → Prop}   (K : XS mX9_erase 0 [(0, .ref 0)] [] I L (fun r I' L' => XS mL_most 4 [(0, .ref 0)] (r.toList ++ []) I' L' Q)) : XS mL_most 0 [(0, .ref 0)] [] I L Q := by
  refine x_aload_n 0 dL_most_0 rfl rfl ?_
  exact xs_callV mX9_erase [] [] 0 9 0 _ rfl dL_most_1 ml_L_19 qX9_erase rfl ⟨Nat.le_of_ble_eq_true rfl, Nat.le_of_ble_eq_true rfl⟩ ⟨rfl, rfl⟩ (Nat.le_of_ble_eq_true rfl) sh_0 (by decide) rfl (Nat.le_of_ble_eq_true rfl) (K)
theorem bL_most_4 {I : Nat → Nat → Int32} {L : Nat → Int64} {Q : Option Value → (Nat → Nat → Int32) → (Nat → Int64) → Prop} {s0 : Int32}  (K : XS mL_says 0 [(0, .ref 0), (1, .int (110 : Int32)), (2, .int (111 : Int32)), (3, .int (100 : Int32)), (4, .int (101 : Int32))] [] I L (fun r I' L' => XS mL_most 17 [(0, .ref 0)] (r.toList ++ []) I' L' Q)) : XS mL_most 4 [(0, .ref 0)] [.int s0] I L Q := by
  refine x_pop dL_most_4 rfl ?_
  refine x_aload_n 0 dL_most_5 rfl rfl ?_
  refine x_bipush (v := (110 : Int32)) dL_most_6 (by decide) ?_
  refine x_bipush (v := (111 : Int32)) dL_most_8 (by decide) ?_
  refine x_bipush (v := (100 : Int32)) dL_most_10 (by decide) ?_
  refine x_bipush (v := (101 : Int32)) dL_most_12 (by decide) ?_
  exact xs_callS mL_says [.ref 0, .int (110 : Int32), .int (111 : Int32), .int (100 : Int32), .int (101 : Int32)] [] 5 _ rfl dL_most_14 ml_L_25 qL_says rfl ⟨Nat.le_of_ble_eq_true rfl, Nat.le_of_ble_eq_true rfl⟩ ⟨rfl, rfl⟩ (Nat.le_of_ble_eq_true rfl) (Nat.le_of_ble_eq_true rfl) (K)
theorem bL_most_17 {I : Nat → Nat → Int32} {L : Nat → Int64} {Q : Option Value → (Nat → Nat → Int32) → (Nat → Int64) → Prop}   (K : XS mL_says 0 [(0, .ref 0), (1, .int (115 : Int32)), (2, .int (56 : Int32)), (3, .int (32 : Int32)), (4, .int (32 : Int32))] [] I L (fun r I' L' => XS mL_most 29 [(0, .ref 0)] (r.toList ++ []) I' L' Q)) : XS mL_most 17 [(0, .ref 0)] [] I L Q := by
  refine x_aload_n 0 dL_most_17 rfl rfl ?_
  refine x_bipush (v := (115 : Int32)) dL_most_18 (by decide) ?_
  refine x_bipush (v := (56 : Int32)) dL_most_20 (by decide) ?_
  refine x_bipush (v := (32 : Int32)) dL_most_22 (by decide) ?_
  refine x_bipush (v := (32 : Int32)) dL_most_24 (by decide) ?_
  exact xs_callS mL_says [.ref 0, .int (115 : Int32), .int (56 : Int32), .int (32 : Int32), .int (32 : Int32)] [] 5 _ rfl dL_most_26 ml_L_25 qL_says rfl ⟨Nat.le_of_ble_eq_true rfl, Nat.le_of_ble_eq_true rfl⟩ ⟨rfl, rfl⟩ (Nat.le_of_ble_eq_true rfl) (Nat.le_of_ble_eq_true rfl) (K)
theorem bL_most_29 {I : Nat → Nat → Int32} {L : Nat → Int64} {Q : Option Value → (Nat → Nat → Int32) → (Nat → Int64) → Prop}   (K : XS mL_most 31 [(0, .ref 0), (1, .int (0 : Int32))] [] I L Q) : XS mL_most 29 [(0, .ref 0)] [] I L Q := by
  refine x_iconst (v := (0 : Int32)) dL_most_29 (by decide) ?_
  refine x_istore_n [(0, .ref 0), (1, .int (0 : Int32))] dL_most_30 rfl (Nat.le_of_ble_eq_true rfl) rfl ?_
  exact K
theorem bL_most_31 {I : Nat → Nat → Int32} {L : Nat → Int64} {Q : Option Value → (Nat → Nat → Int32) → (Nat → Int64) → Prop} {v1 : Int32}  (K1 : ((14 : Int32) ≤ v1) → XS mL_most 128 [(0, .ref 0)] [] I L Q) (K2 : (¬ (14 : Int32) ≤ v1) → XS mL_most 37 [(0, .ref 0), (1, .int v1)] [] I L Q) : XS mL_most 31 [(0, .ref 0), (1, .int v1)] [] I L Q := by
  refine x_iload_n 1 dL_most_31 rfl rfl ?_
  refine x_bipush (v := (14 : Int32)) dL_most_32 (by decide) ?_
  exact x_icmp_ge 128 dL_most_34 (by decide) (fun h => x_sub [0] rfl (K1 h)) (fun h => K2 h)
theorem bL_most_37 {I : Nat → Nat → Int32} {L : Nat → Int64} {Q : Option Value → (Nat → Nat → Int32) → (Nat → Int64) → Prop} {v1 : Int32}  (K : XS mL_says 0 [(0, .ref 0), (1, .int (59 : Int32)), (2, .int (108 : Int32)), (3, .int (105 : Int32)), (4, .int (110 : Int32))] [] I L (fun r I' L' => XS mL_most 49 [(0, .ref 0), (1, .int v1)] (r.toList ++ []) I' L' Q)) : XS mL_most 37 [(0, .ref 0), (1, .int v1)] [] I L Q := by
  refine x_aload_n 0 dL_most_37 rfl rfl ?_
  refine x_bipush (v := (59 : Int32)) dL_most_38 (by decide) ?_
  refine x_bipush (v := (108 : Int32)) dL_most_40 (by decide) ?_
  refine x_bipush (v := (105 : Int32)) dL_most_42 (by decide) ?_
  refine x_bipush (v := (110 : Int32)) dL_most_44 (by decide) ?_
  exact xs_callS mL_says [.ref 0, .int (59 : Int32), .int (108 : Int32), .int (105 : Int32), .int (110 : Int32)] [] 5 _ rfl dL_most_46 ml_L_25 qL_says rfl ⟨Nat.le_of_ble_eq_true rfl, Nat.le_of_ble_eq_true rfl⟩ ⟨rfl, rfl⟩ (Nat.le_of_ble_eq_true rfl) (Nat.le_of_ble_eq_true rfl) (K)
theorem bL_most_49 {I : Nat → Nat → Int32} {L : Nat → Int64} {Q : Option Value → (Nat → Nat → Int32) → (Nat → Int64) → Prop} {v1 : Int32}  (K1 : ((7 : Int32) ≤ v1) → XS mL_most 64 [(0, .ref 0), (1, .int v1)] [.int (48 : Int32), .int (107 : Int32), .ref 0] I L Q) (K2 : (¬ (7 : Int32) ≤ v1) → XS mL_most 60 [(0, .ref 0), (1, .int v1)] [.int (48 : Int32), .int (107 : Int32), .ref 0] I L Q) : XS mL_most 49 [(0, .ref 0), (1, .int v1)] [] I L Q := by
  refine x_aload_n 0 dL_most_49 rfl rfl ?_
  refine x_bipush (v := (107 : Int32)) dL_most_50 (by decide) ?_
  refine x_bipush (v := (48 : Int32)) dL_most_52 (by decide) ?_
  refine x_iload_n 1 dL_most_54 rfl rfl ?_
  refine x_bipush (v := (7 : Int32)) dL_most_55 (by decide) ?_
  exact x_icmp_ge 64 dL_most_57 (by decide) (fun h => K1 h) (fun h => K2 h)
theorem bL_most_60 {I : Nat → Nat → Int32} {L : Nat → Int64} {Q : Option Value → (Nat → Nat → Int32) → (Nat → Int64) → Prop} {v1 : Int32} {s1 : Int32} {s2 : Int32}  (K : XS mL_most 65 [(0, .ref 0), (1, .int v1)] [.int (0 : Int32), .int s2, .int s1, .ref 0] I L Q) : XS mL_most 60 [(0, .ref 0), (1, .int v1)] [.int s2, .int s1, .ref 0] I L Q := by
  refine x_iconst (v := (0 : Int32)) dL_most_60 (by decide) ?_
  exact x_goto 65 dL_most_61 (by decide) (K)
theorem bL_most_64 {I : Nat → Nat → Int32} {L : Nat → Int64} {Q : Option Value → (Nat → Nat → Int32) → (Nat → Int64) → Prop} {v1 : Int32} {s1 : Int32} {s2 : Int32}  (K : XS mL_most 65 [(0, .ref 0), (1, .int v1)] [.int (1 : Int32), .int s2, .int s1, .ref 0] I L Q) : XS mL_most 64 [(0, .ref 0), (1, .int v1)] [.int s2, .int s1, .ref 0] I L Q := by
  refine x_iconst (v := (1 : Int32)) dL_most_64 (by decide) ?_
  exact K
theorem bL_most_65 {I : Nat → Nat → Int32} {L : Nat → Int64} {Q : Option Value → (Nat → Nat → Int32) → (Nat → Int64) → Prop} {v1 : Int32} {s1 : Int32} {s2 : Int32} {s3 : Int32}  (K1 : ((7 : Int32) ≤ v1) → XS mL_most 81 [(0, .ref 0), (1, .int v1)] [.int (32 : Int32), .int (s2 + s3), .int s1, .ref 0] I L Q) (K2 : (¬ (7 : Int32) ≤ v1) → XS mL_most 74 [(0, .ref 0), (1, .int v1)] [.int (32 : Int32), .int (s2 + s3), .int s1, .ref 0] I L Q) : XS mL_most 65 [(0, .ref 0), (1, .int v1)] [.int s3, .int s2, .int s1, .ref 0] I L Q := by
  refine x_iadd dL_most_65 ?_
  refine x_bipush (v := (32 : Int32)) dL_most_66 (by decide) ?_
  refine x_iload_n 1 dL_most_68 rfl rfl ?_
  refine x_bipush (v := (7 : Int32)) dL_most_69 (by decide) ?_
  exact x_icmp_ge 81 dL_most_71 (by decide) (fun h => K1 h) (fun h => K2 h)
theorem bL_most_74 {I : Nat → Nat → Int32} {L : Nat → Int64} {Q : Option Value → (Nat → Nat → Int32) → (Nat → Int64) → Prop} {v1 : Int32} {s1 : Int32} {s2 : Int32} {s3 : Int32}  (K : XS mL_most 96 [(0, .ref 0), (1, .int v1)] [.int ((49 : Int32) + v1), .int s3, .int s2, .int s1, .ref 0] I L Q) : XS mL_most 74 [(0, .ref 0), (1, .int v1)] [.int s3, .int s2, .int s1, .ref 0] I L Q := by
  refine x_bipush (v := (49 : Int32)) dL_most_74 (by decide) ?_
  refine x_iload_n 1 dL_most_76 rfl rfl ?_
  refine x_iadd dL_most_77 ?_
  exact x_goto 96 dL_most_78 (by decide) (K)
theorem bL_most_81 {I : Nat → Nat → Int32} {L : Nat → Int64} {Q : Option Value → (Nat → Nat → Int32) → (Nat → Int64) → Prop} {v1 : Int32} {s1 : Int32} {s2 : Int32} {s3 : Int32}  (K1 : ((13 : Int32) ≤ v1) → XS mL_most 94 [(0, .ref 0), (1, .int v1)] [.int s3, .int s2, .int s1, .ref 0] I L Q) (K2 : (¬ (13 : Int32) ≤ v1) → XS mL_most 87 [(0, .ref 0), (1, .int v1)] [.int s3, .int s2, .int s1, .ref 0] I L Q) : XS mL_most 81 [(0, .ref 0), (1, .int v1)] [.int s3, .int s2, .int s1, .ref 0] I L Q := by
  refine x_iload_n 1 dL_most_81 rfl rfl ?_
  refine x_bipush (v := (13 : Int32)) dL_most_82 (by decide) ?_
  exact x_icmp_ge 94 dL_most_84 (by decide) (fun h => K1 h) (fun h => K2 h)
theorem bL_most_87 {I : Nat → Nat → Int32} {L : Nat → Int64} {Q : Option Value → (Nat → Nat → Int32) → (Nat → Int64) → Prop} {v1 : Int32} {s1 : Int32} {s2 : Int32} {s3 : Int32}  (K : XS mL_most 96 [(0, .ref 0), (1, .int v1)] [.int ((43 : Int32) + v1), .int s3, .int s2, .int s1, .ref 0] I L Q) : XS mL_most 87 [(0, .ref 0), (1, .int v1)] [.int s3, .int s2, .int s1, .ref 0] I L Q := by
  refine x_bipush (v := (43 : Int32)) dL_most_87 (by decide) ?_
  refine x_iload_n 1 dL_most_89 rfl rfl ?_
  refine x_iadd dL_most_90 ?_
  exact x_goto 96 dL_most_91 (by decide) (K)
theorem bL_most_94 {I : Nat → Nat → Int32} {L : Nat → Int64} {Q : Option Value → (Nat → Nat → Int32) → (Nat → Int64) → Prop} {v1 : Int32} {s1 : Int32} {s2 : Int32} {s3 : Int32}  (K : XS mL_most 96 [(0, .ref 0), (1, .int v1)] [.int (48 : Int32), .int s3, .int s2, .int s1, .ref 0] I L Q) : XS mL_most 94 [(0, .ref 0), (1, .int v1)] [.int s3, .int s2, .int s1, .ref 0] I L Q := by
  refine x_bipush (v := (48 : Int32)) dL_most_94 (by decide) ?_
  exact K
theorem bL_most_96 {I : Nat → Nat → Int32} {L : Nat → Int64} {Q : Option Value → (Nat → Nat → Int32) → (Nat → Int64) → Prop} {v1 : Int32} {s1 : Int32} {s2 : Int32} {s3 : Int32} {s4 : Int32}  (K : XS mL_says 0 [(0, .ref 0), (1, .int s1), (2, .int s2), (3, .int s3), (4, .int s4)] [] I L (fun r I' L' => XS mL_most 99 [(0, .ref 0), (1, .int v1)] (r.toList ++ []) I' L' Q)) : XS mL_most 96 [(0, .ref 0), (1, .int v1)] [.int s4, .int s3, .int s2, .int s1, .ref 0] I L Q := by
  exact xs_callS mL_says [.ref 0, .int s1, .int s2, .int s3, .int s4] [] 5 _ rfl dL_most_96 ml_L_25 qL_says rfl ⟨Nat.le_of_ble_eq_true rfl, Nat.le_of_ble_eq_true rfl⟩ ⟨rfl, rfl⟩ (Nat.le_of_ble_eq_true rfl) (Nat.le_of_ble_eq_true rfl) (K)
theorem bL_most_99 {I : Nat → Nat → Int32} {L : Nat → Int64} {Q : Option Value → (Nat → Nat → Int32) → (Nat → Int64) → Prop} {v1 : Int32}  (K1 : ((13 : Int32) ≤ v1) → XS mL_most 113 [(0, .ref 0), (1, .int v1)] [.int (32 : Int32), .ref 0] I L Q) (K2 : (¬ (13 : Int32) ≤ v1) → XS mL_most 108 [(0, .ref 0), (1, .int v1)] [.int (32 : Int32), .ref 0] I L Q) : XS mL_most 99 [(0, .ref 0), (1, .int v1)] [] I L Q := by
  refine x_aload_n 0 dL_most_99 rfl rfl ?_
  refine x_bipush (v := (32 : Int32)) dL_most_100 (by decide) ?_
  refine x_iload_n 1 dL_most_102 rfl rfl ?_
  refine x_bipush (v := (13 : Int32)) dL_most_103 (by decide) ?_
  exact x_icmp_ge 113 dL_most_105 (by decide) (fun h => K1 h) (fun h => K2 h)
theorem bL_most_108 {I : Nat → Nat → Int32} {L : Nat → Int64} {Q : Option Value → (Nat → Nat → Int32) → (Nat → Int64) → Prop} {v1 : Int32} {s1 : Int32}  (K : XS mL_most 115 [(0, .ref 0), (1, .int v1)] [.int (49 : Int32), .int s1, .ref 0] I L Q) : XS mL_most 108 [(0, .ref 0), (1, .int v1)] [.int s1, .ref 0] I L Q := by
  refine x_bipush (v := (49 : Int32)) dL_most_108 (by decide) ?_
  exact x_goto 115 dL_most_110 (by decide) (K)
theorem bL_most_113 {I : Nat → Nat → Int32} {L : Nat → Int64} {Q : Option Value → (Nat → Nat → Int32) → (Nat → Int64) → Prop} {v1 : Int32} {s1 : Int32}  (K : XS mL_most 115 [(0, .ref 0), (1, .int v1)] [.int (53 : Int32), .int s1, .ref 0] I L Q) : XS mL_most 113 [(0, .ref 0), (1, .int v1)] [.int s1, .ref 0] I L Q := by
  refine x_bipush (v := (53 : Int32)) dL_most_113 (by decide) ?_
  exact K
theorem bL_most_115 {I : Nat → Nat → Int32} {L : Nat → Int64} {Q : Option Value → (Nat → Nat → Int32) → (Nat → Int64) → Prop} {v1 : Int32} {s1 : Int32} {s2 : Int32}  (K : XS mL_says 0 [(0, .ref 0), (1, .int s1), (2, .int s2), (3, .int (32 : Int32)), (4, .int (50 : Int32))] [] I L (fun r I' L' => XS mL_most 122 [(0, .ref 0), (1, .int v1)] (r.toList ++ []) I' L' Q)) : XS mL_most 115 [(0, .ref 0), (1, .int v1)] [.int s2, .int s1, .ref 0] I L Q := by
  refine x_bipush (v := (32 : Int32)) dL_most_115 (by decide) ?_
  refine x_bipush (v := (50 : Int32)) dL_most_117 (by decide) ?_
  exact xs_callS mL_says [.ref 0, .int s1, .int s2, .int (32 : Int32), .int (50 : Int32)] [] 5 _ rfl dL_most_119 ml_L_25 qL_says rfl ⟨Nat.le_of_ble_eq_true rfl, Nat.le_of_ble_eq_true rfl⟩ ⟨rfl, rfl⟩ (Nat.le_of_ble_eq_true rfl) (Nat.le_of_ble_eq_true rfl) (K)
theorem bL_most_122 {I : Nat → Nat → Int32} {L : Nat → Int64} {Q : Option Value → (Nat → Nat → Int32) → (Nat → Int64) → Prop} {v1 : Int32}  (K : XS mL_most 31 [(0, .ref 0), (1, .int (v1 + (1 : Int32)))] [] I L Q) : XS mL_most 122 [(0, .ref 0), (1, .int v1)] [] I L Q := by
  refine x_iinc 1 (v1 + (1 : Int32)) [(0, .ref 0), (1, .int (v1 + (1 : Int32)))] dL_most_122 rfl rfl (Nat.le_of_ble_eq_true rfl) rfl ?_
  exact x_goto 31 dL_most_125 (by decide) (K)
theorem bL_most_128 {I : Nat → Nat → Int32} {L : Nat → Int64} {Q : Option Value → (Nat → Nat → Int32) → (Nat → Int64) → Prop}   (K : XS mX9_fault 0 [(0, .ref 0)] [] I L (fun r I' L' => XS mL_most 132 [(0, .ref 0)] (r.toList ++ []) I' L' Q)) : XS mL_most 128 [(0, .ref 0)] [] I L Q := by
  refine x_aload_n 0 dL_most_128 rfl rfl ?_
  exact xs_callV mX9_fault [] [] 0 9 0 _ rfl dL_most_129 ml_L_33 qX9_fault rfl ⟨Nat.le_of_ble_eq_true rfl, Nat.le_of_ble_eq_true rfl⟩ ⟨rfl, rfl⟩ (Nat.le_of_ble_eq_true rfl) sh_0 (by decide) rfl (Nat.le_of_ble_eq_true rfl) (K)
theorem bL_most_132 {I : Nat → Nat → Int32} {L : Nat → Int64} {Q : Option Value → (Nat → Nat → Int32) → (Nat → Int64) → Prop} {s0 : Int32}  (K1 : (¬ s0 = (-1 : Int32)) → XS mL_most 175 [] [] I L Q) (K2 : (s0 = (-1 : Int32)) → XS mL_most 136 [(0, .ref 0)] [] I L Q) : XS mL_most 132 [(0, .ref 0)] [.int s0] I L Q := by
  refine x_iconst (v := (-1 : Int32)) dL_most_132 (by decide) ?_
  exact x_icmp_ne 175 dL_most_133 (by decide) (fun h => x_sub [] rfl (K1 h)) (fun h => K2 h)
theorem bL_most_136 {I : Nat → Nat → Int32} {L : Nat → Int64} {Q : Option Value → (Nat → Nat → Int32) → (Nat → Int64) → Prop}   (K : XS mX9_tell 0 [(0, .ref 0)] [] I L (fun r I' L' => XS mL_most 140 [(0, .ref 0)] (r.toList ++ []) I' L' Q)) : XS mL_most 136 [(0, .ref 0)] [] I L Q := by
  refine x_aload_n 0 dL_most_136 rfl rfl ?_
  exact xs_callV mX9_tell [] [] 0 9 0 _ rfl dL_most_137 ml_L_36 qX9_tell rfl ⟨Nat.le_of_ble_eq_true rfl, Nat.le_of_ble_eq_true rfl⟩ ⟨rfl, rfl⟩ (Nat.le_of_ble_eq_true rfl) sh_0 (by decide) rfl (Nat.le_of_ble_eq_true rfl) (K)
theorem bL_most_140 {I : Nat → Nat → Int32} {L : Nat → Int64} {Q : Option Value → (Nat → Nat → Int32) → (Nat → Int64) → Prop} {s0 : Int32}  (K1 : (¬ s0 = (15 : Int32)) → XS mL_most 175 [] [] I L Q) (K2 : (s0 = (15 : Int32)) → XS mL_most 145 [(0, .ref 0)] [] I L Q) : XS mL_most 140 [(0, .ref 0)] [.int s0] I L Q := by
  refine x_bipush (v := (15 : Int32)) dL_most_140 (by decide) ?_
  exact x_icmp_ne 175 dL_most_142 (by decide) (fun h => x_sub [] rfl (K1 h)) (fun h => K2 h)
theorem bL_most_145 {I : Nat → Nat → Int32} {L : Nat → Int64} {Q : Option Value → (Nat → Nat → Int32) → (Nat → Int64) → Prop}   (K : XS mX9_count 0 [(0, .ref 0), (1, .int (1 : Int32))] [] I L (fun r I' L' => XS mL_most 150 [(0, .ref 0)] (r.toList ++ []) I' L' Q)) : XS mL_most 145 [(0, .ref 0)] [] I L Q := by
  refine x_aload_n 0 dL_most_145 rfl rfl ?_
  refine x_iconst (v := (1 : Int32)) dL_most_146 (by decide) ?_
  exact xs_callV mX9_count [.int (1 : Int32)] [] 0 9 1 _ rfl dL_most_147 ml_L_39 qX9_count rfl ⟨Nat.le_of_ble_eq_true rfl, Nat.le_of_ble_eq_true rfl⟩ ⟨rfl, rfl⟩ (Nat.le_of_ble_eq_true rfl) sh_0 (by decide) rfl (Nat.le_of_ble_eq_true rfl) (K)
theorem bL_most_150 {I : Nat → Nat → Int32} {L : Nat → Int64} {Q : Option Value → (Nat → Nat → Int32) → (Nat → Int64) → Prop} {s0 : Int32}  (K1 : (¬ s0 = (13 : Int32)) → XS mL_most 175 [] [] I L Q) (K2 : (s0 = (13 : Int32)) → XS mL_most 155 [(0, .ref 0)] [] I L Q) : XS mL_most 150 [(0, .ref 0)] [.int s0] I L Q := by
  refine x_bipush (v := (13 : Int32)) dL_most_150 (by decide) ?_
  exact x_icmp_ne 175 dL_most_152 (by decide) (fun h => x_sub [] rfl (K1 h)) (fun h => K2 h)
theorem bL_most_155 {I : Nat → Nat → Int32} {L : Nat → Int64} {Q : Option Value → (Nat → Nat → Int32) → (Nat → Int64) → Prop}   (K : XS mX9_link 0 [(0, .ref 0), (1, .int (0 : Int32)), (2, .int (2 : Int32))] [] I L (fun r I' L' => XS mL_most 161 [(0, .ref 0)] (r.toList ++ []) I' L' Q)) : XS mL_most 155 [(0, .ref 0)] [] I L Q := by
  refine x_aload_n 0 dL_most_155 rfl rfl ?_
  refine x_iconst (v := (0 : Int32)) dL_most_156 (by decide) ?_
  refine x_iconst (v := (2 : Int32)) dL_most_157 (by decide) ?_
  exact xs_callV mX9_link [.int (0 : Int32), .int (2 : Int32)] [] 0 9 2 _ rfl dL_most_158 ml_L_52 qX9_link rfl ⟨Nat.le_of_ble_eq_true rfl, Nat.le_of_ble_eq_true rfl⟩ ⟨rfl, rfl⟩ (Nat.le_of_ble_eq_true rfl) sh_0 (by decide) rfl (Nat.le_of_ble_eq_true rfl) (K)
theorem bL_most_161 {I : Nat → Nat → Int32} {L : Nat → Int64} {Q : Option Value → (Nat → Nat → Int32) → (Nat → Int64) → Prop} {s0 : Int32}  (K1 : (¬ s0 = (5 : Int32)) → XS mL_most 175 [] [] I L Q) (K2 : (s0 = (5 : Int32)) → XS mL_most 165 [(0, .ref 0)] [] I L Q) : XS mL_most 161 [(0, .ref 0)] [.int s0] I L Q := by
  refine x_iconst (v := (5 : Int32)) dL_most_161 (by decide) ?_
  exact x_icmp_ne 175 dL_most_162 (by decide) (fun h => x_sub [] rfl (K1 h)) (fun h => K2 h)
theorem bL_most_165 {I : Nat → Nat → Int32} {L : Nat → Int64} {Q : Option Value → (Nat → Nat → Int32) → (Nat → Int64) → Prop}   (K : XS mX9_link 0 [(0, .ref 0), (1, .int (1 : Int32)), (2, .int (2 : Int32))] [] I L (fun r I' L' => XS mL_most 171 [(0, .ref 0)] (r.toList ++ []) I' L' Q)) : XS mL_most 165 [(0, .ref 0)] [] I L Q := by
  refine x_aload_n 0 dL_most_165 rfl rfl ?_
  refine x_iconst (v := (1 : Int32)) dL_most_166 (by decide) ?_
  refine x_iconst (v := (2 : Int32)) dL_most_167 (by decide) ?_
  exact xs_callV mX9_link [.int (1 : Int32), .int (2 : Int32)] [] 0 9 2 _ rfl dL_most_168 ml_L_52 qX9_link rfl ⟨Nat.le_of_ble_eq_true rfl, Nat.le_of_ble_eq_true rfl⟩ ⟨rfl, rfl⟩ (Nat.le_of_ble_eq_true rfl) sh_0 (by decide) rfl (Nat.le_of_ble_eq_true rfl) (K)
theorem bL_most_171 {I : Nat → Nat → Int32} {L : Nat → Int64} {Q : Option Value → (Nat → Nat → Int32) → (Nat → Int64) → Prop} {s0 : Int32}  (K1 : (s0 = (1 : Int32)) → XS mL_most 177 [(0, .ref 0)] [] I L Q) (K2 : (¬ s0 = (1 : Int32)) → XS mL_most 175 [] [] I L Q) : XS mL_most 171 [(0, .ref 0)] [.int s0] I L Q := by
  refine x_iconst (v := (1 : Int32)) dL_most_171 (by decide) ?_
  exact x_icmp_eq 177 dL_most_172 (by decide) (fun h => K1 h) (fun h => x_sub [] rfl (K2 h))
theorem bL_most_175 {I : Nat → Nat → Int32} {L : Nat → Int64} {Q : Option Value → (Nat → Nat → Int32) → (Nat → Int64) → Prop}   (K : Q (some (.int (0 : Int32))) I L) : XS mL_most 175 [] [] I L Q := by
  refine x_iconst (v := (0 : Int32)) dL_most_175 (by decide) ?_
  exact xs_iret dL_most_176 rfl (x_nar _ (Or.inl rfl)) K
theorem bL_most_177 {I : Nat → Nat → Int32} {L : Nat → Int64} {Q : Option Value → (Nat → Nat → Int32) → (Nat → Int64) → Prop}   (K : XS mL_says 0 [(0, .ref 0), (1, .int (108 : Int32)), (2, .int (105 : Int32)), (3, .int (110 : Int32)), (4, .int (107 : Int32))] [] I L (fun r I' L' => XS mL_most 189 [(0, .ref 0)] (r.toList ++ []) I' L' Q)) : XS mL_most 177 [(0, .ref 0)] [] I L Q := by
  refine x_aload_n 0 dL_most_177 rfl rfl ?_
  refine x_bipush (v := (108 : Int32)) dL_most_178 (by decide) ?_
  refine x_bipush (v := (105 : Int32)) dL_most_180 (by decide) ?_
  refine x_bipush (v := (110 : Int32)) dL_most_182 (by decide) ?_
  refine x_bipush (v := (107 : Int32)) dL_most_184 (by decide) ?_
  exact xs_callS mL_says [.ref 0, .int (108 : Int32), .int (105 : Int32), .int (110 : Int32), .int (107 : Int32)] [] 5 _ rfl dL_most_186 ml_L_25 qL_says rfl ⟨Nat.le_of_ble_eq_true rfl, Nat.le_of_ble_eq_true rfl⟩ ⟨rfl, rfl⟩ (Nat.le_of_ble_eq_true rfl) (Nat.le_of_ble_eq_true rfl) (K)
theorem bL_most_189 {I : Nat → Nat → Int32} {L : Nat → Int64} {Q : Option Value → (Nat → Nat → Int32) → (Nat → Int64) → Prop}   (K : XS mL_says 0 [(0, .ref 0), (1, .int (50 : Int32)), (2, .int (51 : Int32)), (3, .int (32 : Int32)), (4, .int (32 : Int32))] [] I L (fun r I' L' => XS mL_most 201 [(0, .ref 0)] (r.toList ++ []) I' L' Q)) : XS mL_most 189 [(0, .ref 0)] [] I L Q := by
  refine x_aload_n 0 dL_most_189 rfl rfl ?_
  refine x_bipush (v := (50 : Int32)) dL_most_190 (by decide) ?_
  refine x_bipush (v := (51 : Int32)) dL_most_192 (by decide) ?_
  refine x_bipush (v := (32 : Int32)) dL_most_194 (by decide) ?_
  refine x_bipush (v := (32 : Int32)) dL_most_196 (by decide) ?_
  exact xs_callS mL_says [.ref 0, .int (50 : Int32), .int (51 : Int32), .int (32 : Int32), .int (32 : Int32)] [] 5 _ rfl dL_most_198 ml_L_25 qL_says rfl ⟨Nat.le_of_ble_eq_true rfl, Nat.le_of_ble_eq_true rfl⟩ ⟨rfl, rfl⟩ (Nat.le_of_ble_eq_true rfl) (Nat.le_of_ble_eq_true rfl) (K)
theorem bL_most_201 {I : Nat → Nat → Int32} {L : Nat → Int64} {Q : Option Value → (Nat → Nat → Int32) → (Nat → Int64) → Prop}   (K : XS mX9_fault 0 [(0, .ref 0)] [] I L (fun r I' L' => XS mL_most 205 [(0, .ref 0)] (r.toList ++ []) I' L' Q)) : XS mL_most 201 [(0, .ref 0)] [] I L Q := by
  refine x_aload_n 0 dL_most_201 rfl rfl ?_
  exact xs_callV mX9_fault [] [] 0 9 0 _ rfl dL_most_202 ml_L_33 qX9_fault rfl ⟨Nat.le_of_ble_eq_true rfl, Nat.le_of_ble_eq_true rfl⟩ ⟨rfl, rfl⟩ (Nat.le_of_ble_eq_true rfl) sh_0 (by decide) rfl (Nat.le_of_ble_eq_true rfl) (K)
theorem bL_most_205 {I : Nat → Nat → Int32} {L : Nat → Int64} {Q : Option Value → (Nat → Nat → Int32) → (Nat → Int64) → Prop} {s0 : Int32}  (K1 : (¬ s0 = (4 : Int32)) → XS mL_most 218 [] [] I L Q) (K2 : (s0 = (4 : Int32)) → XS mL_most 209 [(0, .ref 0)] [] I L Q) : XS mL_most 205 [(0, .ref 0)] [.int s0] I L Q := by
  refine x_iconst (v := (4 : Int32)) dL_most_205 (by decide) ?_
  exact x_icmp_ne 218 dL_most_206 (by decide) (fun h => x_sub [] rfl (K1 h)) (fun h => K2 h)
theorem bL_most_209 {I : Nat → Nat → Int32} {L : Nat → Int64} {Q : Option Value → (Nat → Nat → Int32) → (Nat → Int64) → Prop}   (K : XS mX9_erase 0 [(0, .ref 0)] [] I L (fun r I' L' => XS mL_most 213 [(0, .ref 0)] (r.toList ++ []) I' L' Q)) : XS mL_most 209 [(0, .ref 0)] [] I L Q := by
  refine x_aload_n 0 dL_most_209 rfl rfl ?_
  exact xs_callV mX9_erase [] [] 0 9 0 _ rfl dL_most_210 ml_L_19 qX9_erase rfl ⟨Nat.le_of_ble_eq_true rfl, Nat.le_of_ble_eq_true rfl⟩ ⟨rfl, rfl⟩ (Nat.le_of_ble_eq_true rfl) sh_0 (by decide) rfl (Nat.le_of_ble_eq_true rfl) (K)
theorem bL_most_213 {I : Nat → Nat → Int32} {L : Nat → Int64} {Q : Option Value → (Nat → Nat → Int32) → (Nat → Int64) → Prop} {s0 : Int32}  (K1 : (s0 = (8 : Int32)) → XS mL_most 220 [(0, .ref 0)] [] I L Q) (K2 : (¬ s0 = (8 : Int32)) → XS mL_most 218 [] [] I L Q) : XS mL_most 213 [(0, .ref 0)] [.int s0] I L Q := by
  refine x_bipush (v := (8 : Int32)) dL_most_213 (by decide) ?_
  exact x_icmp_eq 220 dL_most_215 (by decide) (fun h => K1 h) (fun h => x_sub [] rfl (K2 h))
theorem bL_most_218 {I : Nat → Nat → Int32} {L : Nat → Int64} {Q : Option Value → (Nat → Nat → Int32) → (Nat → Int64) → Prop}   (K : Q (some (.int (0 : Int32))) I L) : XS mL_most 218 [] [] I L Q := by
  refine x_iconst (v := (0 : Int32)) dL_most_218 (by decide) ?_
  exact xs_iret dL_most_219 rfl (x_nar _ (Or.inl rfl)) K
theorem bL_most_220 {I : Nat → Nat → Int32} {L : Nat → Int64} {Q : Option Value → (Nat → Nat → Int32) → (Nat → Int64) → Prop}   (K : XS mL_says 0 [(0, .ref 0), (1, .int (108 : Int32)), (2, .int (105 : Int32)), (3, .int (110 : Int32)), (4, .int (107 : Int32))] [] I L (fun r I' L' => XS mL_most 232 [(0, .ref 0)] (r.toList ++ []) I' L' Q)) : XS mL_most 220 [(0, .ref 0)] [] I L Q := by
  refine x_aload_n 0 dL_most_220 rfl rfl ?_
  refine x_bipush (v := (108 : Int32)) dL_most_221 (by decide) ?_
  refine x_bipush (v := (105 : Int32)) dL_most_223 (by decide) ?_
  refine x_bipush (v := (110 : Int32)) dL_most_225 (by decide) ?_
  refine x_bipush (v := (107 : Int32)) dL_most_227 (by decide) ?_
  exact xs_callS mL_says [.ref 0, .int (108 : Int32), .int (105 : Int32), .int (110 : Int32), .int (107 : Int32)] [] 5 _ rfl dL_most_229 ml_L_25 qL_says rfl ⟨Nat.le_of_ble_eq_true rfl, Nat.le_of_ble_eq_true rfl⟩ ⟨rfl, rfl⟩ (Nat.le_of_ble_eq_true rfl) (Nat.le_of_ble_eq_true rfl) (K)
theorem bL_most_232 {I : Nat → Nat → Int32} {L : Nat → Int64} {Q : Option Value → (Nat → Nat → Int32) → (Nat → Int64) → Prop}   (K : XS mL_says 0 [(0, .ref 0), (1, .int (50 : Int32)), (2, .int (32 : Int32)), (3, .int (51 : Int32)), (4, .int (32 : Int32))] [] I L (fun r I' L' => XS mL_most 244 [(0, .ref 0)] (r.toList ++ []) I' L' Q)) : XS mL_most 232 [(0, .ref 0)] [] I L Q := by
  refine x_aload_n 0 dL_most_232 rfl rfl ?_
  refine x_bipush (v := (50 : Int32)) dL_most_233 (by decide) ?_
  refine x_bipush (v := (32 : Int32)) dL_most_235 (by decide) ?_
  refine x_bipush (v := (51 : Int32)) dL_most_237 (by decide) ?_
  refine x_bipush (v := (32 : Int32)) dL_most_239 (by decide) ?_
  exact xs_callS mL_says [.ref 0, .int (50 : Int32), .int (32 : Int32), .int (51 : Int32), .int (32 : Int32)] [] 5 _ rfl dL_most_241 ml_L_25 qL_says rfl ⟨Nat.le_of_ble_eq_true rfl, Nat.le_of_ble_eq_true rfl⟩ ⟨rfl, rfl⟩ (Nat.le_of_ble_eq_true rfl) (Nat.le_of_ble_eq_true rfl) (K)
theorem bL_most_244 {I : Nat → Nat → Int32} {L : Nat → Int64} {Q : Option Value → (Nat → Nat → Int32) → (Nat → Int64) → Prop}   (K : XS mL_says 0 [(0, .ref 0), (1, .int (49 : Int32)), (2, .int (32 : Int32)), (3, .int (49 : Int32)), (4, .int (59 : Int32))] [] I L (fun r I' L' => XS mL_most 256 [(0, .ref 0)] (r.toList ++ []) I' L' Q)) : XS mL_most 244 [(0, .ref 0)] [] I L Q := by
  refine x_aload_n 0 dL_most_244 rfl rfl ?_
  refine x_bipush (v := (49 : Int32)) dL_most_245 (by decide) ?_
  refine x_bipush (v := (32 : Int32)) dL_most_247 (by decide) ?_
  refine x_bipush (v := (49 : Int32)) dL_most_249 (by decide) ?_
  refine x_bipush (v := (59 : Int32)) dL_most_251 (by decide) ?_
  exact xs_callS mL_says [.ref 0, .int (49 : Int32), .int (32 : Int32), .int (49 : Int32), .int (59 : Int32)] [] 5 _ rfl dL_most_253 ml_L_25 qL_says rfl ⟨Nat.le_of_ble_eq_true rfl, Nat.le_of_ble_eq_true rfl⟩ ⟨rfl, rfl⟩ (Nat.le_of_ble_eq_true rfl) (Nat.le_of_ble_eq_true rfl) (K)
theorem bL_most_256 {I : Nat → Nat → Int32} {L : Nat → Int64} {Q : Option Value → (Nat → Nat → Int32) → (Nat → Int64) → Prop}   (K : XS mL_says 0 [(0, .ref 0), (1, .int (108 : Int32)), (2, .int (105 : Int32)), (3, .int (110 : Int32)), (4, .int (107 : Int32))] [] I L (fun r I' L' => XS mL_most 268 [(0, .ref 0)] (r.toList ++ []) I' L' Q)) : XS mL_most 256 [(0, .ref 0)] [] I L Q := by
  refine x_aload_n 0 dL_most_256 rfl rfl ?_
  refine x_bipush (v := (108 : Int32)) dL_most_257 (by decide) ?_
  refine x_bipush (v := (105 : Int32)) dL_most_259 (by decide) ?_
  refine x_bipush (v := (110 : Int32)) dL_most_261 (by decide) ?_
  refine x_bipush (v := (107 : Int32)) dL_most_263 (by decide) ?_
  exact xs_callS mL_says [.ref 0, .int (108 : Int32), .int (105 : Int32), .int (110 : Int32), .int (107 : Int32)] [] 5 _ rfl dL_most_265 ml_L_25 qL_says rfl ⟨Nat.le_of_ble_eq_true rfl, Nat.le_of_ble_eq_true rfl⟩ ⟨rfl, rfl⟩ (Nat.le_of_ble_eq_true rfl) (Nat.le_of_ble_eq_true rfl) (K)
theorem bL_most_268 {I : Nat → Nat → Int32} {L : Nat → Int64} {Q : Option Value → (Nat → Nat → Int32) → (Nat → Int64) → Prop}   (K : XS mL_says 0 [(0, .ref 0), (1, .int (50 : Int32)), (2, .int (32 : Int32)), (3, .int (52 : Int32)), (4, .int (32 : Int32))] [] I L (fun r I' L' => XS mL_most 280 [(0, .ref 0)] (r.toList ++ []) I' L' Q)) : XS mL_most 268 [(0, .ref 0)] [] I L Q := by
  refine x_aload_n 0 dL_most_268 rfl rfl ?_
  refine x_bipush (v := (50 : Int32)) dL_most_269 (by decide) ?_
  refine x_bipush (v := (32 : Int32)) dL_most_271 (by decide) ?_
  refine x_bipush (v := (52 : Int32)) dL_most_273 (by decide) ?_
  refine x_bipush (v := (32 : Int32)) dL_most_275 (by decide) ?_
  exact xs_callS mL_says [.ref 0, .int (50 : Int32), .int (32 : Int32), .int (52 : Int32), .int (32 : Int32)] [] 5 _ rfl dL_most_277 ml_L_25 qL_says rfl ⟨Nat.le_of_ble_eq_true rfl, Nat.le_of_ble_eq_true rfl⟩ ⟨rfl, rfl⟩ (Nat.le_of_ble_eq_true rfl) (Nat.le_of_ble_eq_true rfl) (K)
theorem bL_most_280 {I : Nat → Nat → Int32} {L : Nat → Int64} {Q : Option Value → (Nat → Nat → Int32) → (Nat → Int64) → Prop}   (K : XS mX9_write 0 [(0, .ref 0), (1, .int (49 : Int32))] [] I L (fun r I' L' => XS mL_most 286 [(0, .ref 0)] (r.toList ++ []) I' L' Q)) : XS mL_most 280 [(0, .ref 0)] [] I L Q := by
  refine x_aload_n 0 dL_most_280 rfl rfl ?_
  refine x_bipush (v := (49 : Int32)) dL_most_281 (by decide) ?_
  exact xs_callV mX9_write [.int (49 : Int32)] [] 0 9 1 _ rfl dL_most_283 ml_L_43 qX9_write rfl ⟨Nat.le_of_ble_eq_true rfl, Nat.le_of_ble_eq_true rfl⟩ ⟨rfl, rfl⟩ (Nat.le_of_ble_eq_true rfl) sh_0 (by decide) rfl (Nat.le_of_ble_eq_true rfl) (K)
theorem bL_most_286 {I : Nat → Nat → Int32} {L : Nat → Int64} {Q : Option Value → (Nat → Nat → Int32) → (Nat → Int64) → Prop} {s0 : Int32}  (K : XS mX9_write 0 [(0, .ref 0), (1, .int (49 : Int32))] [] I L (fun r I' L' => XS mL_most 293 [(0, .ref 0)] (r.toList ++ []) I' L' Q)) : XS mL_most 286 [(0, .ref 0)] [.int s0] I L Q := by
  refine x_pop dL_most_286 rfl ?_
  refine x_aload_n 0 dL_most_287 rfl rfl ?_
  refine x_bipush (v := (49 : Int32)) dL_most_288 (by decide) ?_
  exact xs_callV mX9_write [.int (49 : Int32)] [] 0 9 1 _ rfl dL_most_290 ml_L_43 qX9_write rfl ⟨Nat.le_of_ble_eq_true rfl, Nat.le_of_ble_eq_true rfl⟩ ⟨rfl, rfl⟩ (Nat.le_of_ble_eq_true rfl) sh_0 (by decide) rfl (Nat.le_of_ble_eq_true rfl) (K)
theorem bL_most_293 {I : Nat → Nat → Int32} {L : Nat → Int64} {Q : Option Value → (Nat → Nat → Int32) → (Nat → Int64) → Prop} {s0 : Int32}  (K : XS mX9_fault 0 [(0, .ref 0)] [] I L (fun r I' L' => XS mL_most 298 [(0, .ref 0)] (r.toList ++ []) I' L' Q)) : XS mL_most 293 [(0, .ref 0)] [.int s0] I L Q := by
  refine x_pop dL_most_293 rfl ?_
  refine x_aload_n 0 dL_most_294 rfl rfl ?_
  exact xs_callV mX9_fault [] [] 0 9 0 _ rfl dL_most_295 ml_L_33 qX9_fault rfl ⟨Nat.le_of_ble_eq_true rfl, Nat.le_of_ble_eq_true rfl⟩ ⟨rfl, rfl⟩ (Nat.le_of_ble_eq_true rfl) sh_0 (by decide) rfl (Nat.le_of_ble_eq_true rfl) (K)
theorem bL_most_298 {I : Nat → Nat → Int32} {L : Nat → Int64} {Q : Option Value → (Nat → Nat → Int32) → (Nat → Int64) → Prop} {s0 : Int32}  (K1 : (¬ s0 = (18 : Int32)) → XS mL_most 316 [] [] I L Q) (K2 : (s0 = (18 : Int32)) → XS mL_most 303 [(0, .ref 0)] [] I L Q) : XS mL_most 298 [(0, .ref 0)] [.int s0] I L Q := by
  refine x_bipush (v := (18 : Int32)) dL_most_298 (by decide) ?_
  exact x_icmp_ne 316 dL_most_300 (by decide) (fun h => x_sub [] rfl (K1 h)) (fun h => K2 h)
theorem bL_most_303 {I : Nat → Nat → Int32} {L : Nat → Int64} {Q : Option Value → (Nat → Nat → Int32) → (Nat → Int64) → Prop}   (K : XS mX9_erase 0 [(0, .ref 0)] [] I L (fun r I' L' => XS mL_most 307 [] (r.toList ++ []) I' L' Q)) : XS mL_most 303 [(0, .ref 0)] [] I L Q := by
  refine x_aload_n 0 dL_most_303 rfl rfl ?_
  refine x_sub [] rfl ?_
  exact xs_callV mX9_erase [] [] 0 9 0 _ rfl dL_most_304 ml_L_19 qX9_erase rfl ⟨Nat.le_of_ble_eq_true rfl, Nat.le_of_ble_eq_true rfl⟩ ⟨rfl, rfl⟩ (Nat.le_of_ble_eq_true rfl) sh_0 (by decide) rfl (Nat.le_of_ble_eq_true rfl) (K)
theorem bL_most_307 {I : Nat → Nat → Int32} {L : Nat → Int64} {Q : Option Value → (Nat → Nat → Int32) → (Nat → Int64) → Prop} {s0 : Int32}  (K1 : (¬ s0 = (22 : Int32)) → XS mL_most 316 [] [] I L Q) (K2 : (s0 = (22 : Int32)) → XS mL_most 312 [] [] I L Q) : XS mL_most 307 [] [.int s0] I L Q := by
  refine x_bipush (v := (22 : Int32)) dL_most_307 (by decide) ?_
  exact x_icmp_ne 316 dL_most_309 (by decide) (fun h => K1 h) (fun h => K2 h)
theorem bL_most_312 {I : Nat → Nat → Int32} {L : Nat → Int64} {Q : Option Value → (Nat → Nat → Int32) → (Nat → Int64) → Prop}   (K : XS mL_most 317 [] [.int (1 : Int32)] I L Q) : XS mL_most 312 [] [] I L Q := by
  refine x_iconst (v := (1 : Int32)) dL_most_312 (by decide) ?_
  exact x_goto 317 dL_most_313 (by decide) (K)
theorem bL_most_316 {I : Nat → Nat → Int32} {L : Nat → Int64} {Q : Option Value → (Nat → Nat → Int32) → (Nat → Int64) → Prop}   (K : XS mL_most 317 [] [.int (0 : Int32)] I L Q) : XS mL_most 316 [] [] I L Q := by
  refine x_iconst (v := (0 : Int32)) dL_most_316 (by decide) ?_
  exact K
theorem bL_most_317 {I : Nat → Nat → Int32} {L : Nat → Int64} {Q : Option Value → (Nat → Nat → Int32) → (Nat → Int64) → Prop} {s0 : Int32} (hz1 : s0 = 0 ∨ s0 = 1) (K : Q (some (.int s0)) I L) : XS mL_most 317 [] [.int s0] I L Q := by
  exact xs_iret dL_most_317 rfl (x_nar _ hz1) K
theorem bL_refused_0 {I : Nat → Nat → Int32} {L : Nat → Int64} {Q : Option Value → (Nat → Nat → Int32) → (Nat → Int64) → Prop}   (K : XS mL_whole 0 [(0, .ref 0)] [] I L (fun r I' L' => XS mL_refused 4 [(0, .ref 0)] (r.toList ++ []) I' L' Q)) : XS mL_refused 0 [(0, .ref 0)] [] I L Q := by
  refine x_aload_n 0 dL_refused_0 rfl rfl ?_
  exact xs_callS mL_whole [.ref 0] [] 1 _ rfl dL_refused_1 ml_L_68 qL_whole rfl ⟨Nat.le_of_ble_eq_true rfl, Nat.le_of_ble_eq_true rfl⟩ ⟨rfl, rfl⟩ (Nat.le_of_ble_eq_true rfl) (Nat.le_of_ble_eq_true rfl) (K)
theorem bL_refused_4 {I : Nat → Nat → Int32} {L : Nat → Int64} {Q : Option Value → (Nat → Nat → Int32) → (Nat → Int64) → Prop} {s0 : Int64}  (K : XS mX9_count 0 [(0, .ref 0), (1, .int (11 : Int32))] [] I L (fun r I' L' => XS mL_refused 11 [(0, .ref 0), (1, .long s0)] (r.toList ++ []) I' L' Q)) : XS mL_refused 4 [(0, .ref 0)] [.long s0] I L Q := by
  refine x_lstore_n [(0, .ref 0), (1, .long s0)] dL_refused_4 rfl (Nat.le_of_ble_eq_true rfl) rfl ?_
  refine x_aload_n 0 dL_refused_5 rfl rfl ?_
  refine x_bipush (v := (11 : Int32)) dL_refused_6 (by decide) ?_
  exact xs_callV mX9_count [.int (11 : Int32)] [] 0 9 1 _ rfl dL_refused_8 ml_L_39 qX9_count rfl ⟨Nat.le_of_ble_eq_true rfl, Nat.le_of_ble_eq_true rfl⟩ ⟨rfl, rfl⟩ (Nat.le_of_ble_eq_true rfl) sh_0 (by decide) rfl (Nat.le_of_ble_eq_true rfl) (K)
theorem bL_refused_11 {I : Nat → Nat → Int32} {L : Nat → Int64} {Q : Option Value → (Nat → Nat → Int32) → (Nat → Int64) → Prop} {v1 : Int64} {s0 : Int32}  (K : XS mX9_count 0 [(0, .ref 0), (1, .int (0 : Int32))] [] I L (fun r I' L' => XS mL_refused 17 [(0, .ref 0), (1, .long v1), (3, .int s0)] (r.toList ++ []) I' L' Q)) : XS mL_refused 11 [(0, .ref 0), (1, .long v1)] [.int s0] I L Q := by
  refine x_istore_n [(0, .ref 0), (1, .long v1), (3, .int s0)] dL_refused_11 rfl (Nat.le_of_ble_eq_true rfl) rfl ?_
  refine x_aload_n 0 dL_refused_12 rfl rfl ?_
  refine x_iconst (v := (0 : Int32)) dL_refused_13 (by decide) ?_
  exact xs_callV mX9_count [.int (0 : Int32)] [] 0 9 1 _ rfl dL_refused_14 ml_L_39 qX9_count rfl ⟨Nat.le_of_ble_eq_true rfl, Nat.le_of_ble_eq_true rfl⟩ ⟨rfl, rfl⟩ (Nat.le_of_ble_eq_true rfl) sh_0 (by decide) rfl (Nat.le_of_ble_eq_true rfl) (K)
theorem bL_refused_17 {I : Nat → Nat → Int32} {L : Nat → Int64} {Q : Option Value → (Nat → Nat → Int32) → (Nat → Int64) → Prop} {v1 : Int64} {v3 : Int32} {s0 : Int32}  (K : XS mX9_count 0 [(0, .ref 0), (1, .int (1 : Int32))] [] I L (fun r I' L' => XS mL_refused 24 [(0, .ref 0), (1, .long v1), (3, .int v3), (4, .int s0)] (r.toList ++ []) I' L' Q)) : XS mL_refused 17 [(0, .ref 0), (1, .long v1), (3, .int v3)] [.int s0] I L Q := by
  refine x_istore [(0, .ref 0), (1, .long v1), (3, .int v3), (4, .int s0)] dL_refused_17 (Nat.le_of_ble_eq_true rfl) rfl ?_
  refine x_aload_n 0 dL_refused_19 rfl rfl ?_
  refine x_iconst (v := (1 : Int32)) dL_refused_20 (by decide) ?_
  exact xs_callV mX9_count [.int (1 : Int32)] [] 0 9 1 _ rfl dL_refused_21 ml_L_39 qX9_count rfl ⟨Nat.le_of_ble_eq_true rfl, Nat.le_of_ble_eq_true rfl⟩ ⟨rfl, rfl⟩ (Nat.le_of_ble_eq_true rfl) sh_0 (by decide) rfl (Nat.le_of_ble_eq_true rfl) (K)
theorem bL_refused_24 {I : Nat → Nat → Int32} {L : Nat → Int64} {Q : Option Value → (Nat → Nat → Int32) → (Nat → Int64) → Prop} {v1 : Int64} {v3 : Int32} {v4 : Int32} {s0 : Int32}  (K : XS mX9_count 0 [(0, .ref 0), (1, .int (14 : Int32))] [] I L (fun r I' L' => XS mL_refused 32 [(0, .ref 0), (1, .long v1), (3, .int v3), (4, .int v4), (5, .int s0)] (r.toList ++ []) I' L' Q)) : XS mL_refused 24 [(0, .ref 0), (1, .long v1), (3, .int v3), (4, .int v4)] [.int s0] I L Q := by
  refine x_istore [(0, .ref 0), (1, .long v1), (3, .int v3), (4, .int v4), (5, .int s0)] dL_refused_24 (Nat.le_of_ble_eq_true rfl) rfl ?_
  refine x_aload_n 0 dL_refused_26 rfl rfl ?_
  refine x_bipush (v := (14 : Int32)) dL_refused_27 (by decide) ?_
  exact xs_callV mX9_count [.int (14 : Int32)] [] 0 9 1 _ rfl dL_refused_29 ml_L_39 qX9_count rfl ⟨Nat.le_of_ble_eq_true rfl, Nat.le_of_ble_eq_true rfl⟩ ⟨rfl, rfl⟩ (Nat.le_of_ble_eq_true rfl) sh_0 (by decide) rfl (Nat.le_of_ble_eq_true rfl) (K)
theorem bL_refused_32 {I : Nat → Nat → Int32} {L : Nat → Int64} {Q : Option Value → (Nat → Nat → Int32) → (Nat → Int64) → Prop} {v1 : Int64} {v3 : Int32} {v4 : Int32} {v5 : Int32} {s0 : Int32}  (K1 : (¬ s0 = (-3 : Int32)) → XS mL_refused 300 [(0, .ref 0), (1, .long v1), (3, .int v3), (5, .int v5)] [] I L Q) (K2 : (s0 = (-3 : Int32)) → XS mL_refused 37 [(0, .ref 0), (1, .long v1), (3, .int v3), (4, .int v4), (5, .int v5)] [] I L Q) : XS mL_refused 32 [(0, .ref 0), (1, .long v1), (3, .int v3), (4, .int v4), (5, .int v5)] [.int s0] I L Q := by
  refine x_bipush (v := (-3 : Int32)) dL_refused_32 (by decide) ?_
  exact x_icmp_ne 300 dL_refused_34 (by decide) (fun h => x_sub [0, 1, 2, 4] rfl (K1 h)) (fun h => K2 h)
theorem bL_refused_37 {I : Nat → Nat → Int32} {L : Nat → Int64} {Q : Option Value → (Nat → Nat → Int32) → (Nat → Int64) → Prop} {v1 : Int64} {v3 : Int32} {v4 : Int32} {v5 : Int32}  (K : XS mX9_link 0 [(0, .ref 0), (1, .int v5), (2, .int (9 : Int32))] [] I L (fun r I' L' => XS mL_refused 45 [(0, .ref 0), (1, .long v1), (3, .int v3), (4, .int v4), (5, .int v5)] (r.toList ++ []) I' L' Q)) : XS mL_refused 37 [(0, .ref 0), (1, .long v1), (3, .int v3), (4, .int v4), (5, .int v5)] [] I L Q := by
  refine x_aload_n 0 dL_refused_37 rfl rfl ?_
  refine x_iload 4 dL_refused_38 rfl ?_
  refine x_bipush (v := (9 : Int32)) dL_refused_40 (by decide) ?_
  exact xs_callV mX9_link [.int v5, .int (9 : Int32)] [] 0 9 2 _ rfl dL_refused_42 ml_L_52 qX9_link rfl ⟨Nat.le_of_ble_eq_true rfl, Nat.le_of_ble_eq_true rfl⟩ ⟨rfl, rfl⟩ (Nat.le_of_ble_eq_true rfl) sh_0 (by decide) rfl (Nat.le_of_ble_eq_true rfl) (K)
theorem bL_refused_45 {I : Nat → Nat → Int32} {L : Nat → Int64} {Q : Option Value → (Nat → Nat → Int32) → (Nat → Int64) → Prop} {v1 : Int64} {v3 : Int32} {v4 : Int32} {v5 : Int32} {s0 : Int32}  (K1 : (¬ s0 = (-2 : Int32)) → XS mL_refused 300 [(0, .ref 0), (1, .long v1), (3, .int v3), (5, .int v5)] [] I L Q) (K2 : (s0 = (-2 : Int32)) → XS mL_refused 50 [(0, .ref 0), (1, .long v1), (3, .int v3), (4, .int v4), (5, .int v5)] [] I L Q) : XS mL_refused 45 [(0, .ref 0), (1, .long v1), (3, .int v3), (4, .int v4), (5, .int v5)] [.int s0] I L Q := by
  refine x_bipush (v := (-2 : Int32)) dL_refused_45 (by decide) ?_
  exact x_icmp_ne 300 dL_refused_47 (by decide) (fun h => x_sub [0, 1, 2, 4] rfl (K1 h)) (fun h => K2 h)
theorem bL_refused_50 {I : Nat → Nat → Int32} {L : Nat → Int64} {Q : Option Value → (Nat → Nat → Int32) → (Nat → Int64) → Prop} {v1 : Int64} {v3 : Int32} {v4 : Int32} {v5 : Int32}  (K : XS mX9_fail 0 [(0, .ref 0), (1, .int v5)] [] I L (fun r I' L' => XS mL_refused 56 [(0, .ref 0), (1, .long v1), (3, .int v3), (4, .int v4), (5, .int v5)] (r.toList ++ []) I' L' Q)) : XS mL_refused 50 [(0, .ref 0), (1, .long v1), (3, .int v3), (4, .int v4), (5, .int v5)] [] I L Q := by
  refine x_aload_n 0 dL_refused_50 rfl rfl ?_
  refine x_iload 4 dL_refused_51 rfl ?_
  exact xs_callV mX9_fail [.int v5] [] 0 9 1 _ rfl dL_refused_53 ml_L_72 qX9_fail rfl ⟨Nat.le_of_ble_eq_true rfl, Nat.le_of_ble_eq_true rfl⟩ ⟨rfl, rfl⟩ (Nat.le_of_ble_eq_true rfl) sh_0 (by decide) rfl (Nat.le_of_ble_eq_true rfl) (K)
theorem bL_refused_56 {I : Nat → Nat → Int32} {L : Nat → Int64} {Q : Option Value → (Nat → Nat → Int32) → (Nat → Int64) → Prop} {v1 : Int64} {v3 : Int32} {v4 : Int32} {v5 : Int32} {s0 : Int32}  (K1 : (¬ s0 = (-2 : Int32)) → XS mL_refused 300 [(0, .ref 0), (1, .long v1), (3, .int v3), (5, .int v5)] [] I L Q) (K2 : (s0 = (-2 : Int32)) → XS mL_refused 61 [(0, .ref 0), (1, .long v1), (3, .int v3), (4, .int v4), (5, .int v5)] [] I L Q) : XS mL_refused 56 [(0, .ref 0), (1, .long v1), (3, .int v3), (4, .int v4), (5, .int v5)] [.int s0] I L Q := by
  refine x_bipush (v := (-2 : Int32)) dL_refused_56 (by decide) ?_
  exact x_icmp_ne 300 dL_refused_58 (by decide) (fun h => x_sub [0, 1, 2, 4] rfl (K1 h)) (fun h => K2 h)
theorem bL_refused_61 {I : Nat → Nat → Int32} {L : Nat → Int64} {Q : Option Value → (Nat → Nat → Int32) → (Nat → Int64) → Prop} {v1 : Int64} {v3 : Int32} {v4 : Int32} {v5 : Int32}  (K : XS mX9_heal 0 [(0, .ref 0), (1, .int (-1 : Int32))] [] I L (fun r I' L' => XS mL_refused 66 [(0, .ref 0), (1, .long v1), (3, .int v3), (4, .int v4), (5, .int v5)] (r.toList ++ []) I' L' Q)) : XS mL_refused 61 [(0, .ref 0), (1, .long v1), (3, .int v3), (4, .int v4), (5, .int v5)] [] I L Q := by
  refine x_aload_n 0 dL_refused_61 rfl rfl ?_
  refine x_iconst (v := (-1 : Int32)) dL_refused_62 (by decide) ?_
  exact xs_callV mX9_heal [.int (-1 : Int32)] [] 0 9 1 _ rfl dL_refused_63 ml_L_75 qX9_heal rfl ⟨Nat.le_of_ble_eq_true rfl, Nat.le_of_ble_eq_true rfl⟩ ⟨rfl, rfl⟩ (Nat.le_of_ble_eq_true rfl) sh_0 (by decide) rfl (Nat.le_of_ble_eq_true rfl) (K)
theorem bL_refused_66 {I : Nat → Nat → Int32} {L : Nat → Int64} {Q : Option Value → (Nat → Nat → Int32) → (Nat → Int64) → Prop} {v1 : Int64} {v3 : Int32} {v4 : Int32} {v5 : Int32} {s0 : Int32}  (K1 : (¬ s0 = (-2 : Int32)) → XS mL_refused 300 [(0, .ref 0), (1, .long v1), (3, .int v3), (5, .int v5)] [] I L Q) (K2 : (s0 = (-2 : Int32)) → XS mL_refused 71 [(0, .ref 0), (1, .long v1), (3, .int v3), (4, .int v4), (5, .int v5)] [] I L Q) : XS mL_refused 66 [(0, .ref 0), (1, .long v1), (3, .int v3), (4, .int v4), (5, .int v5)] [.int s0] I L Q := by
  refine x_bipush (v := (-2 : Int32)) dL_refused_66 (by decide) ?_
  exact x_icmp_ne 300 dL_refused_68 (by decide) (fun h => x_sub [0, 1, 2, 4] rfl (K1 h)) (fun h => K2 h)
theorem bL_refused_71 {I : Nat → Nat → Int32} {L : Nat → Int64} {Q : Option Value → (Nat → Nat → Int32) → (Nat → Int64) → Prop} {v1 : Int64} {v3 : Int32} {v4 : Int32} {v5 : Int32}  (K : XS mX9_tune 0 [(0, .ref 0), (1, .int v5), (2, .int (0 : Int32)), (3, .int (0 : Int32))] [] I L (fun r I' L' => XS mL_refused 79 [(0, .ref 0), (1, .long v1), (3, .int v3), (4, .int v4), (5, .int v5)] (r.toList ++ []) I' L' Q)) : XS mL_refused 71 [(0, .ref 0), (1, .long v1), (3, .int v3), (4, .int v4), (5, .int v5)] [] I L Q := by
  refine x_aload_n 0 dL_refused_71 rfl rfl ?_
  refine x_iload 4 dL_refused_72 rfl ?_
  refine x_iconst (v := (0 : Int32)) dL_refused_74 (by decide) ?_
  refine x_iconst (v := (0 : Int32)) dL_refused_75 (by decide) ?_
  exact xs_callV mX9_tune [.int v5, .int (0 : Int32), .int (0 : Int32)] [] 0 9 3 _ rfl dL_refused_76 ml_L_78 qX9_tune rfl ⟨Nat.le_of_ble_eq_true rfl, Nat.le_of_ble_eq_true rfl⟩ ⟨rfl, rfl⟩ (Nat.le_of_ble_eq_true rfl) sh_0 (by decide) rfl (Nat.le_of_ble_eq_true rfl) (K)
theorem bL_refused_79 {I : Nat → Nat → Int32} {L : Nat → Int64} {Q : Option Value → (Nat → Nat → Int32) → (Nat → Int64) → Prop} {v1 : Int64} {v3 : Int32} {v4 : Int32} {v5 : Int32} {s0 : Int32}  (K1 : (¬ s0 = (-2 : Int32)) → XS mL_refused 300 [(0, .ref 0), (1, .long v1), (3, .int v3), (5, .int v5)] [] I L Q) (K2 : (s0 = (-2 : Int32)) → XS mL_refused 84 [(0, .ref 0), (1, .long v1), (3, .int v3), (4, .int v4), (5, .int v5)] [] I L Q) : XS mL_refused 79 [(0, .ref 0), (1, .long v1), (3, .int v3), (4, .int v4), (5, .int v5)] [.int s0] I L Q := by
  refine x_bipush (v := (-2 : Int32)) dL_refused_79 (by decide) ?_
  exact x_icmp_ne 300 dL_refused_81 (by decide) (fun h => x_sub [0, 1, 2, 4] rfl (K1 h)) (fun h => K2 h)
theorem bL_refused_84 {I : Nat → Nat → Int32} {L : Nat → Int64} {Q : Option Value → (Nat → Nat → Int32) → (Nat → Int64) → Prop} {v1 : Int64} {v3 : Int32} {v4 : Int32} {v5 : Int32}  (K : XS mX9_learn 0 [(0, .ref 0), (1, .int v4)] [] I L (fun r I' L' => XS mL_refused 90 [(0, .ref 0), (1, .long v1), (3, .int v3), (4, .int v4), (5, .int v5)] (r.toList ++ []) I' L' Q)) : XS mL_refused 84 [(0, .ref 0), (1, .long v1), (3, .int v3), (4, .int v4), (5, .int v5)] [] I L Q := by
  refine x_aload_n 0 dL_refused_84 rfl rfl ?_
  refine x_iload 3 dL_refused_85 rfl ?_
  exact xs_callV mX9_learn [.int v4] [] 0 9 1 _ rfl dL_refused_87 ml_L_82 qX9_learn rfl ⟨Nat.le_of_ble_eq_true rfl, Nat.le_of_ble_eq_true rfl⟩ ⟨rfl, rfl⟩ (Nat.le_of_ble_eq_true rfl) sh_0 (by decide) rfl (Nat.le_of_ble_eq_true rfl) (K)
theorem bL_refused_90 {I : Nat → Nat → Int32} {L : Nat → Int64} {Q : Option Value → (Nat → Nat → Int32) → (Nat → Int64) → Prop} {v1 : Int64} {v3 : Int32} {v4 : Int32} {v5 : Int32} {s0 : Int32}  (K1 : (¬ s0 = (-2 : Int32)) → XS mL_refused 300 [(0, .ref 0), (1, .long v1), (3, .int v3), (5, .int v5)] [] I L Q) (K2 : (s0 = (-2 : Int32)) → XS mL_refused 95 [(0, .ref 0), (1, .long v1), (3, .int v3), (4, .int v4), (5, .int v5)] [] I L Q) : XS mL_refused 90 [(0, .ref 0), (1, .long v1), (3, .int v3), (4, .int v4), (5, .int v5)] [.int s0] I L Q := by
  refine x_bipush (v := (-2 : Int32)) dL_refused_90 (by decide) ?_
  exact x_icmp_ne 300 dL_refused_92 (by decide) (fun h => x_sub [0, 1, 2, 4] rfl (K1 h)) (fun h => K2 h)
theorem bL_refused_95 {I : Nat → Nat → Int32} {L : Nat → Int64} {Q : Option Value → (Nat → Nat → Int32) → (Nat → Int64) → Prop} {v1 : Int64} {v3 : Int32} {v4 : Int32} {v5 : Int32}  (K : XS mX9_seen 0 [(0, .ref 0), (1, .int v4)] [] I L (fun r I' L' => XS mL_refused 101 [(0, .ref 0), (1, .long v1), (3, .int v3), (4, .int v4), (5, .int v5)] (r.toList ++ []) I' L' Q)) : XS mL_refused 95 [(0, .ref 0), (1, .long v1), (3, .int v3), (4, .int v4), (5, .int v5)] [] I L Q := by
  refine x_aload_n 0 dL_refused_95 rfl rfl ?_
  refine x_iload 3 dL_refused_96 rfl ?_
  exact xs_callV mX9_seen [.int v4] [] 0 9 1 _ rfl dL_refused_98 ml_L_55 qX9_seen rfl ⟨Nat.le_of_ble_eq_true rfl, Nat.le_of_ble_eq_true rfl⟩ ⟨rfl, rfl⟩ (Nat.le_of_ble_eq_true rfl) sh_0 (by decide) rfl (Nat.le_of_ble_eq_true rfl) (K)
theorem bL_refused_101 {I : Nat → Nat → Int32} {L : Nat → Int64} {Q : Option Value → (Nat → Nat → Int32) → (Nat → Int64) → Prop} {v1 : Int64} {v3 : Int32} {v4 : Int32} {v5 : Int32} {s0 : Int32}  (K1 : (¬ s0 = (-2 : Int32)) → XS mL_refused 300 [(0, .ref 0), (1, .long v1), (3, .int v3), (5, .int v5)] [] I L Q) (K2 : (s0 = (-2 : Int32)) → XS mL_refused 106 [(0, .ref 0), (1, .long v1), (3, .int v3), (4, .int v4), (5, .int v5)] [] I L Q) : XS mL_refused 101 [(0, .ref 0), (1, .long v1), (3, .int v3), (4, .int v4), (5, .int v5)] [.int s0] I L Q := by
  refine x_bipush (v := (-2 : Int32)) dL_refused_101 (by decide) ?_
  exact x_icmp_ne 300 dL_refused_103 (by decide) (fun h => x_sub [0, 1, 2, 4] rfl (K1 h)) (fun h => K2 h)
theorem bL_refused_106 {I : Nat → Nat → Int32} {L : Nat → Int64} {Q : Option Value → (Nat → Nat → Int32) → (Nat → Int64) → Prop} {v1 : Int64} {v3 : Int32} {v4 : Int32} {v5 : Int32}  (K : XS mX9_next 0 [(0, .ref 0), (1, .int v4), (2, .int (0 : Int32)), (3, .int (0 : Int32))] [] I L (fun r I' L' => XS mL_refused 114 [(0, .ref 0), (1, .long v1), (3, .int v3), (4, .int v4), (5, .int v5)] (r.toList ++ []) I' L' Q)) : XS mL_refused 106 [(0, .ref 0), (1, .long v1), (3, .int v3), (4, .int v4), (5, .int v5)] [] I L Q := by
  refine x_aload_n 0 dL_refused_106 rfl rfl ?_
  refine x_iload 3 dL_refused_107 rfl ?_
  refine x_iconst (v := (0 : Int32)) dL_refused_109 (by decide) ?_
  refine x_iconst (v := (0 : Int32)) dL_refused_110 (by decide) ?_
  exact xs_callV mX9_next [.int v4, .int (0 : Int32), .int (0 : Int32)] [] 0 9 3 _ rfl dL_refused_111 ml_L_85 qX9_next rfl ⟨Nat.le_of_ble_eq_true rfl, Nat.le_of_ble_eq_true rfl⟩ ⟨rfl, rfl⟩ (Nat.le_of_ble_eq_true rfl) sh_0 (by decide) rfl (Nat.le_of_ble_eq_true rfl) (K)
theorem bL_refused_114 {I : Nat → Nat → Int32} {L : Nat → Int64} {Q : Option Value → (Nat → Nat → Int32) → (Nat → Int64) → Prop} {v1 : Int64} {v3 : Int32} {v4 : Int32} {v5 : Int32} {s0 : Int32}  (K1 : (¬ s0 = (-2 : Int32)) → XS mL_refused 300 [(0, .ref 0), (1, .long v1), (3, .int v3), (5, .int v5)] [] I L Q) (K2 : (s0 = (-2 : Int32)) → XS mL_refused 119 [(0, .ref 0), (1, .long v1), (3, .int v3), (4, .int v4), (5, .int v5)] [] I L Q) : XS mL_refused 114 [(0, .ref 0), (1, .long v1), (3, .int v3), (4, .int v4), (5, .int v5)] [.int s0] I L Q := by
  refine x_bipush (v := (-2 : Int32)) dL_refused_114 (by decide) ?_
  exact x_icmp_ne 300 dL_refused_116 (by decide) (fun h => x_sub [0, 1, 2, 4] rfl (K1 h)) (fun h => K2 h)
theorem bL_refused_119 {I : Nat → Nat → Int32} {L : Nat → Int64} {Q : Option Value → (Nat → Nat → Int32) → (Nat → Int64) → Prop} {v1 : Int64} {v3 : Int32} {v4 : Int32} {v5 : Int32}  (K : XS mX9_far 0 [(0, .ref 0), (1, .int (0 : Int32)), (2, .int v4), (3, .int (5 : Int32))] [] I L (fun r I' L' => XS mL_refused 127 [(0, .ref 0), (1, .long v1), (3, .int v3), (4, .int v4), (5, .int v5)] (r.toList ++ []) I' L' Q)) : XS mL_refused 119 [(0, .ref 0), (1, .long v1), (3, .int v3), (4, .int v4), (5, .int v5)] [] I L Q := by
  refine x_aload_n 0 dL_refused_119 rfl rfl ?_
  refine x_iconst (v := (0 : Int32)) dL_refused_120 (by decide) ?_
  refine x_iload 3 dL_refused_121 rfl ?_
  refine x_iconst (v := (5 : Int32)) dL_refused_123 (by decide) ?_
  exact xs_callV mX9_far [.int (0 : Int32), .int v4, .int (5 : Int32)] [] 0 9 3 _ rfl dL_refused_124 ml_L_88 qX9_far rfl ⟨Nat.le_of_ble_eq_true rfl, Nat.le_of_ble_eq_true rfl⟩ ⟨rfl, rfl⟩ (Nat.le_of_ble_eq_true rfl) sh_0 (by decide) rfl (Nat.le_of_ble_eq_true rfl) (K)
theorem bL_refused_127 {I : Nat → Nat → Int32} {L : Nat → Int64} {Q : Option Value → (Nat → Nat → Int32) → (Nat → Int64) → Prop} {v1 : Int64} {v3 : Int32} {v4 : Int32} {v5 : Int32} {s0 : Int32}  (K1 : (¬ s0 = (-2 : Int32)) → XS mL_refused 300 [(0, .ref 0), (1, .long v1), (3, .int v3), (5, .int v5)] [] I L Q) (K2 : (s0 = (-2 : Int32)) → XS mL_refused 132 [(0, .ref 0), (1, .long v1), (3, .int v3), (4, .int v4), (5, .int v5)] [] I L Q) : XS mL_refused 127 [(0, .ref 0), (1, .long v1), (3, .int v3), (4, .int v4), (5, .int v5)] [.int s0] I L Q := by
  refine x_bipush (v := (-2 : Int32)) dL_refused_127 (by decide) ?_
  exact x_icmp_ne 300 dL_refused_129 (by decide) (fun h => x_sub [0, 1, 2, 4] rfl (K1 h)) (fun h => K2 h)
theorem bL_refused_132 {I : Nat → Nat → Int32} {L : Nat → Int64} {Q : Option Value → (Nat → Nat → Int32) → (Nat → Int64) → Prop} {v1 : Int64} {v3 : Int32} {v4 : Int32} {v5 : Int32}  (K : XS mX9_space 0 [(0, .ref 0), (1, .int (0 : Int32)), (2, .int v5), (3, .int (5 : Int32))] [] I L (fun r I' L' => XS mL_refused 140 [(0, .ref 0), (1, .long v1), (3, .int v3), (4, .int v4), (5, .int v5)] (r.toList ++ []) I' L' Q)) : XS mL_refused 132 [(0, .ref 0), (1, .long v1), (3, .int v3), (4, .int v4), (5, .int v5)] [] I L Q := by
  refine x_aload_n 0 dL_refused_132 rfl rfl ?_
  refine x_iconst (v := (0 : Int32)) dL_refused_133 (by decide) ?_
  refine x_iload 4 dL_refused_134 rfl ?_
  refine x_iconst (v := (5 : Int32)) dL_refused_136 (by decide) ?_
  exact xs_callV mX9_space [.int (0 : Int32), .int v5, .int (5 : Int32)] [] 0 9 3 _ rfl dL_refused_137 ml_L_91 qX9_space rfl ⟨Nat.le_of_ble_eq_true rfl, Nat.le_of_ble_eq_true rfl⟩ ⟨rfl, rfl⟩ (Nat.le_of_ble_eq_true rfl) sh_0 (by decide) rfl (Nat.le_of_ble_eq_true rfl) (K)
theorem bL_refused_140 {I : Nat → Nat → Int32} {L : Nat → Int64} {Q : Option Value → (Nat → Nat → Int32) → (Nat → Int64) → Prop} {v1 : Int64} {v3 : Int32} {v4 : Int32} {v5 : Int32} {s0 : Int32}  (K1 : (¬ s0 = (-2 : Int32)) → XS mL_refused 300 [(0, .ref 0), (1, .long v1), (3, .int v3), (5, .int v5)] [] I L Q) (K2 : (s0 = (-2 : Int32)) → XS mL_refused 145 [(0, .ref 0), (1, .long v1), (3, .int v3), (4, .int v4), (5, .int v5)] [] I L Q) : XS mL_refused 140 [(0, .ref 0), (1, .long v1), (3, .int v3), (4, .int v4), (5, .int v5)] [.int s0] I L Q := by
  refine x_bipush (v := (-2 : Int32)) dL_refused_140 (by decide) ?_
  exact x_icmp_ne 300 dL_refused_142 (by decide) (fun h => x_sub [0, 1, 2, 4] rfl (K1 h)) (fun h => K2 h)
theorem bL_refused_145 {I : Nat → Nat → Int32} {L : Nat → Int64} {Q : Option Value → (Nat → Nat → Int32) → (Nat → Int64) → Prop} {v1 : Int64} {v3 : Int32} {v4 : Int32} {v5 : Int32}  (K : XS mX9_rings 0 [(0, .ref 0), (1, .int v4)] [] I L (fun r I' L' => XS mL_refused 151 [(0, .ref 0), (1, .long v1), (3, .int v3), (4, .int v4), (5, .int v5)] (r.toList ++ []) I' L' Q)) : XS mL_refused 145 [(0, .ref 0), (1, .long v1), (3, .int v3), (4, .int v4), (5, .int v5)] [] I L Q := by
  refine x_aload_n 0 dL_refused_145 rfl rfl ?_
  refine x_iload 3 dL_refused_146 rfl ?_
  exact xs_callV mX9_rings [.int v4] [] 0 9 1 _ rfl dL_refused_148 ml_L_94 qX9_rings rfl ⟨Nat.le_of_ble_eq_true rfl, Nat.le_of_ble_eq_true rfl⟩ ⟨rfl, rfl⟩ (Nat.le_of_ble_eq_true rfl) sh_0 (by decide) rfl (Nat.le_of_ble_eq_true rfl) (K)
theorem bL_refused_151 {I : Nat → Nat → Int32} {L : Nat → Int64} {Q : Option Value → (Nat → Nat → Int32) → (Nat → Int64) → Prop} {v1 : Int64} {v3 : Int32} {v4 : Int32} {v5 : Int32} {s0 : Int32}  (K1 : (¬ s0 = (-2 : Int32)) → XS mL_refused 300 [(0, .ref 0), (1, .long v1), (3, .int v3), (5, .int v5)] [] I L Q) (K2 : (s0 = (-2 : Int32)) → XS mL_refused 156 [(0, .ref 0), (1, .long v1), (3, .int v3), (4, .int v4), (5, .int v5)] [] I L Q) : XS mL_refused 151 [(0, .ref 0), (1, .long v1), (3, .int v3), (4, .int v4), (5, .int v5)] [.int s0] I L Q := by
  refine x_bipush (v := (-2 : Int32)) dL_refused_151 (by decide) ?_
  exact x_icmp_ne 300 dL_refused_153 (by decide) (fun h => x_sub [0, 1, 2, 4] rfl (K1 h)) (fun h => K2 h)
theorem bL_refused_156 {I : Nat → Nat → Int32} {L : Nat → Int64} {Q : Option Value → (Nat → Nat → Int32) → (Nat → Int64) → Prop} {v1 : Int64} {v3 : Int32} {v4 : Int32} {v5 : Int32}  (K : XS mX9_safe 0 [(0, .ref 0), (1, .int v4)] [] I L (fun r I' L' => XS mL_refused 162 [(0, .ref 0), (1, .long v1), (3, .int v3), (4, .int v4), (5, .int v5)] (r.toList ++ []) I' L' Q)) : XS mL_refused 156 [(0, .ref 0), (1, .long v1), (3, .int v3), (4, .int v4), (5, .int v5)] [] I L Q := by
  refine x_aload_n 0 dL_refused_156 rfl rfl ?_
  refine x_iload 3 dL_refused_157 rfl ?_
  exact xs_callV mX9_safe [.int v4] [] 0 9 1 _ rfl dL_refused_159 ml_L_97 qX9_safe rfl ⟨Nat.le_of_ble_eq_true rfl, Nat.le_of_ble_eq_true rfl⟩ ⟨rfl, rfl⟩ (Nat.le_of_ble_eq_true rfl) sh_0 (by decide) rfl (Nat.le_of_ble_eq_true rfl) (K)
theorem bL_refused_162 {I : Nat → Nat → Int32} {L : Nat → Int64} {Q : Option Value → (Nat → Nat → Int32) → (Nat → Int64) → Prop} {v1 : Int64} {v3 : Int32} {v4 : Int32} {v5 : Int32} {s0 : Int32}  (K1 : (¬ s0 = (-2 : Int32)) → XS mL_refused 300 [(0, .ref 0), (1, .long v1), (3, .int v3), (5, .int v5)] [] I L Q) (K2 : (s0 = (-2 : Int32)) → XS mL_refused 167 [(0, .ref 0), (1, .long v1), (3, .int v3), (4, .int v4), (5, .int v5)] [] I L Q) : XS mL_refused 162 [(0, .ref 0), (1, .long v1), (3, .int v3), (4, .int v4), (5, .int v5)] [.int s0] I L Q := by
  refine x_bipush (v := (-2 : Int32)) dL_refused_162 (by decide) ?_
  exact x_icmp_ne 300 dL_refused_164 (by decide) (fun h => x_sub [0, 1, 2, 4] rfl (K1 h)) (fun h => K2 h)
theorem bL_refused_167 {I : Nat → Nat → Int32} {L : Nat → Int64} {Q : Option Value → (Nat → Nat → Int32) → (Nat → Int64) → Prop} {v1 : Int64} {v3 : Int32} {v4 : Int32} {v5 : Int32}  (K : XS mX9_order 0 [(0, .ref 0), (1, .int (-2 : Int32))] [] I L (fun r I' L' => XS mL_refused 173 [(0, .ref 0), (1, .long v1), (3, .int v3), (4, .int v4), (5, .int v5)] (r.toList ++ []) I' L' Q)) : XS mL_refused 167 [(0, .ref 0), (1, .long v1), (3, .int v3), (4, .int v4), (5, .int v5)] [] I L Q := by
  refine x_aload_n 0 dL_refused_167 rfl rfl ?_
  refine x_bipush (v := (-2 : Int32)) dL_refused_168 (by decide) ?_
  exact xs_callV mX9_order [.int (-2 : Int32)] [] 0 9 1 _ rfl dL_refused_170 ml_L_100 qX9_order rfl ⟨Nat.le_of_ble_eq_true rfl, Nat.le_of_ble_eq_true rfl⟩ ⟨rfl, rfl⟩ (Nat.le_of_ble_eq_true rfl) sh_0 (by decide) rfl (Nat.le_of_ble_eq_true rfl) (K)
theorem bL_refused_173 {I : Nat → Nat → Int32} {L : Nat → Int64} {Q : Option Value → (Nat → Nat → Int32) → (Nat → Int64) → Prop} {v1 : Int64} {v3 : Int32} {v4 : Int32} {v5 : Int32} {s0 : Int32}  (K1 : (¬ s0 = (-3 : Int32)) → XS mL_refused 300 [(0, .ref 0), (1, .long v1), (3, .int v3), (5, .int v5)] [] I L Q) (K2 : (s0 = (-3 : Int32)) → XS mL_refused 178 [(0, .ref 0), (1, .long v1), (3, .int v3), (4, .int v4), (5, .int v5)] [] I L Q) : XS mL_refused 173 [(0, .ref 0), (1, .long v1), (3, .int v3), (4, .int v4), (5, .int v5)] [.int s0] I L Q := by
  refine x_bipush (v := (-3 : Int32)) dL_refused_173 (by decide) ?_
  exact x_icmp_ne 300 dL_refused_175 (by decide) (fun h => x_sub [0, 1, 2, 4] rfl (K1 h)) (fun h => K2 h)
theorem bL_refused_178 {I : Nat → Nat → Int32} {L : Nat → Int64} {Q : Option Value → (Nat → Nat → Int32) → (Nat → Int64) → Prop} {v1 : Int64} {v3 : Int32} {v4 : Int32} {v5 : Int32}  (K : XS mX9_push 0 [(0, .ref 0), (1, .int (3 : Int32)), (2, .int (99 : Int32))] [] I L (fun r I' L' => XS mL_refused 185 [(0, .ref 0), (1, .long v1), (3, .int v3), (4, .int v4), (5, .int v5)] (r.toList ++ []) I' L' Q)) : XS mL_refused 178 [(0, .ref 0), (1, .long v1), (3, .int v3), (4, .int v4), (5, .int v5)] [] I L Q := by
  refine x_aload_n 0 dL_refused_178 rfl rfl ?_
  refine x_iconst (v := (3 : Int32)) dL_refused_179 (by decide) ?_
  refine x_bipush (v := (99 : Int32)) dL_refused_180 (by decide) ?_
  exact xs_callV mX9_push [.int (3 : Int32), .int (99 : Int32)] [] 0 9 2 _ rfl dL_refused_182 ml_L_103 qX9_push rfl ⟨Nat.le_of_ble_eq_true rfl, Nat.le_of_ble_eq_true rfl⟩ ⟨rfl, rfl⟩ (Nat.le_of_ble_eq_true rfl) sh_0 (by decide) rfl (Nat.le_of_ble_eq_true rfl) (K)
theorem bL_refused_185 {I : Nat → Nat → Int32} {L : Nat → Int64} {Q : Option Value → (Nat → Nat → Int32) → (Nat → Int64) → Prop} {v1 : Int64} {v3 : Int32} {v4 : Int32} {v5 : Int32} {s0 : Int32}  (K1 : (¬ s0 = (-3 : Int32)) → XS mL_refused 300 [(0, .ref 0), (1, .long v1), (3, .int v3), (5, .int v5)] [] I L Q) (K2 : (s0 = (-3 : Int32)) → XS mL_refused 190 [(0, .ref 0), (1, .long v1), (3, .int v3), (4, .int v4), (5, .int v5)] [] I L Q) : XS mL_refused 185 [(0, .ref 0), (1, .long v1), (3, .int v3), (4, .int v4), (5, .int v5)] [.int s0] I L Q := by
  refine x_bipush (v := (-3 : Int32)) dL_refused_185 (by decide) ?_
  exact x_icmp_ne 300 dL_refused_187 (by decide) (fun h => x_sub [0, 1, 2, 4] rfl (K1 h)) (fun h => K2 h)
theorem bL_refused_190 {I : Nat → Nat → Int32} {L : Nat → Int64} {Q : Option Value → (Nat → Nat → Int32) → (Nat → Int64) → Prop} {v1 : Int64} {v3 : Int32} {v4 : Int32} {v5 : Int32}  (K : XS mX9_push 0 [(0, .ref 0), (1, .int (0 : Int32)), (2, .int v4)] [] I L (fun r I' L' => XS mL_refused 197 [(0, .ref 0), (1, .long v1), (3, .int v3), (4, .int v4), (5, .int v5)] (r.toList ++ []) I' L' Q)) : XS mL_refused 190 [(0, .ref 0), (1, .long v1), (3, .int v3), (4, .int v4), (5, .int v5)] [] I L Q := by
  refine x_aload_n 0 dL_refused_190 rfl rfl ?_
  refine x_iconst (v := (0 : Int32)) dL_refused_191 (by decide) ?_
  refine x_iload 3 dL_refused_192 rfl ?_
  exact xs_callV mX9_push [.int (0 : Int32), .int v4] [] 0 9 2 _ rfl dL_refused_194 ml_L_103 qX9_push rfl ⟨Nat.le_of_ble_eq_true rfl, Nat.le_of_ble_eq_true rfl⟩ ⟨rfl, rfl⟩ (Nat.le_of_ble_eq_true rfl) sh_0 (by decide) rfl (Nat.le_of_ble_eq_true rfl) (K)
theorem bL_refused_197 {I : Nat → Nat → Int32} {L : Nat → Int64} {Q : Option Value → (Nat → Nat → Int32) → (Nat → Int64) → Prop} {v1 : Int64} {v3 : Int32} {v4 : Int32} {v5 : Int32} {s0 : Int32}  (K1 : (¬ s0 = (-2 : Int32)) → XS mL_refused 300 [(0, .ref 0), (1, .long v1), (3, .int v3), (5, .int v5)] [] I L Q) (K2 : (s0 = (-2 : Int32)) → XS mL_refused 202 [(0, .ref 0), (1, .long v1), (3, .int v3), (4, .int v4), (5, .int v5)] [] I L Q) : XS mL_refused 197 [(0, .ref 0), (1, .long v1), (3, .int v3), (4, .int v4), (5, .int v5)] [.int s0] I L Q := by
  refine x_bipush (v := (-2 : Int32)) dL_refused_197 (by decide) ?_
  exact x_icmp_ne 300 dL_refused_199 (by decide) (fun h => x_sub [0, 1, 2, 4] rfl (K1 h)) (fun h => K2 h)
theorem bL_refused_202 {I : Nat → Nat → Int32} {L : Nat → Int64} {Q : Option Value → (Nat → Nat → Int32) → (Nat → Int64) → Prop} {v1 : Int64} {v3 : Int32} {v4 : Int32} {v5 : Int32}  (K : XS mX9_segment 0 [(0, .ref 0), (1, .int (99 : Int32)), (2, .int (0 : Int32))] [] I L (fun r I' L' => XS mL_refused 209 [(0, .ref 0), (1, .long v1), (3, .int v3), (4, .int v4), (5, .int v5)] (r.toList ++ []) I' L' Q)) : XS mL_refused 202 [(0, .ref 0), (1, .long v1), (3, .int v3), (4, .int v4), (5, .int v5)] [] I L Q := by
  refine x_aload_n 0 dL_refused_202 rfl rfl ?_
  refine x_bipush (v := (99 : Int32)) dL_refused_203 (by decide) ?_
  refine x_iconst (v := (0 : Int32)) dL_refused_205 (by decide) ?_
  exact xs_callV mX9_segment [.int (99 : Int32), .int (0 : Int32)] [] 0 9 2 _ rfl dL_refused_206 ml_L_60 qX9_segment rfl ⟨Nat.le_of_ble_eq_true rfl, Nat.le_of_ble_eq_true rfl⟩ ⟨rfl, rfl⟩ (Nat.le_of_ble_eq_true rfl) sh_0 (by decide) rfl (Nat.le_of_ble_eq_true rfl) (K)
theorem bL_refused_209 {I : Nat → Nat → Int32} {L : Nat → Int64} {Q : Option Value → (Nat → Nat → Int32) → (Nat → Int64) → Prop} {v1 : Int64} {v3 : Int32} {v4 : Int32} {v5 : Int32} {s0 : Int32}  (K1 : (¬ s0 = (-2 : Int32)) → XS mL_refused 300 [(0, .ref 0), (1, .long v1), (3, .int v3), (5, .int v5)] [] I L Q) (K2 : (s0 = (-2 : Int32)) → XS mL_refused 214 [(0, .ref 0), (1, .long v1), (3, .int v3), (4, .int v4), (5, .int v5)] [] I L Q) : XS mL_refused 209 [(0, .ref 0), (1, .long v1), (3, .int v3), (4, .int v4), (5, .int v5)] [.int s0] I L Q := by
  refine x_bipush (v := (-2 : Int32)) dL_refused_209 (by decide) ?_
  exact x_icmp_ne 300 dL_refused_211 (by decide) (fun h => x_sub [0, 1, 2, 4] rfl (K1 h)) (fun h => K2 h)
theorem bL_refused_214 {I : Nat → Nat → Int32} {L : Nat → Int64} {Q : Option Value → (Nat → Nat → Int32) → (Nat → Int64) → Prop} {v1 : Int64} {v3 : Int32} {v4 : Int32} {v5 : Int32}  (K : XS mX9_repair 0 [(0, .ref 0), (1, .int (0 : Int32)), (2, .int v5), (3, .int (1 : Int32)), (4, .int (0 : Int32))] [] I L (fun r I' L' => XS mL_refused 223 [(0, .ref 0), (1, .long v1), (3, .int v3), (4, .int v4), (5, .int v5)] (r.toList ++ []) I' L' Q)) : XS mL_refused 214 [(0, .ref 0), (1, .long v1), (3, .int v3), (4, .int v4), (5, .int v5)] [] I L Q := by
  refine x_aload_n 0 dL_refused_214 rfl rfl ?_
  refine x_iconst (v := (0 : Int32)) dL_refused_215 (by decide) ?_
  refine x_iload 4 dL_refused_216 rfl ?_
  refine x_iconst (v := (1 : Int32)) dL_refused_218 (by decide) ?_
  refine x_iconst (v := (0 : Int32)) dL_refused_219 (by decide) ?_
  exact xs_callV mX9_repair [.int (0 : Int32), .int v5, .int (1 : Int32), .int (0 : Int32)] [] 0 9 4 _ rfl dL_refused_220 ml_L_106 qX9_repair rfl ⟨Nat.le_of_ble_eq_true rfl, Nat.le_of_ble_eq_true rfl⟩ ⟨rfl, rfl⟩ (Nat.le_of_ble_eq_true rfl) sh_0 (by decide) rfl (Nat.le_of_ble_eq_true rfl) (K)
theorem bL_refused_223 {I : Nat → Nat → Int32} {L : Nat → Int64} {Q : Option Value → (Nat → Nat → Int32) → (Nat → Int64) → Prop} {v1 : Int64} {v3 : Int32} {v4 : Int32} {v5 : Int32} {s0 : Int32}  (K1 : (¬ s0 = (-2 : Int32)) → XS mL_refused 300 [(0, .ref 0), (1, .long v1), (3, .int v3), (5, .int v5)] [] I L Q) (K2 : (s0 = (-2 : Int32)) → XS mL_refused 228 [(0, .ref 0), (1, .long v1), (3, .int v3), (4, .int v4), (5, .int v5)] [] I L Q) : XS mL_refused 223 [(0, .ref 0), (1, .long v1), (3, .int v3), (4, .int v4), (5, .int v5)] [.int s0] I L Q := by
  refine x_bipush (v := (-2 : Int32)) dL_refused_223 (by decide) ?_
  exact x_icmp_ne 300 dL_refused_225 (by decide) (fun h => x_sub [0, 1, 2, 4] rfl (K1 h)) (fun h => K2 h)
theorem bL_refused_228 {I : Nat → Nat → Int32} {L : Nat → Int64} {Q : Option Value → (Nat → Nat → Int32) → (Nat → Int64) → Prop} {v1 : Int64} {v3 : Int32} {v4 : Int32} {v5 : Int32}  (K : XS mX9_repair 0 [(0, .ref 0), (1, .int (0 : Int32)), (2, .int (0 : Int32)), (3, .int (0 : Int32)), (4, .int (-2 : Int32))] [] I L (fun r I' L' => XS mL_refused 237 [(0, .ref 0), (1, .long v1), (3, .int v3), (4, .int v4), (5, .int v5)] (r.toList ++ []) I' L' Q)) : XS mL_refused 228 [(0, .ref 0), (1, .long v1), (3, .int v3), (4, .int v4), (5, .int v5)] [] I L Q := by
  refine x_aload_n 0 dL_refused_228 rfl rfl ?_
  refine x_iconst (v := (0 : Int32)) dL_refused_229 (by decide) ?_
  refine x_iconst (v := (0 : Int32)) dL_refused_230 (by decide) ?_
  refine x_iconst (v := (0 : Int32)) dL_refused_231 (by decide) ?_
  refine x_bipush (v := (-2 : Int32)) dL_refused_232 (by decide) ?_
  exact xs_callV mX9_repair [.int (0 : Int32), .int (0 : Int32), .int (0 : Int32), .int (-2 : Int32)] [] 0 9 4 _ rfl dL_refused_234 ml_L_106 qX9_repair rfl ⟨Nat.le_of_ble_eq_true rfl, Nat.le_of_ble_eq_true rfl⟩ ⟨rfl, rfl⟩ (Nat.le_of_ble_eq_true rfl) sh_0 (by decide) rfl (Nat.le_of_ble_eq_true rfl) (K)
theorem bL_refused_237 {I : Nat → Nat → Int32} {L : Nat → Int64} {Q : Option Value → (Nat → Nat → Int32) → (Nat → Int64) → Prop} {v1 : Int64} {v3 : Int32} {v4 : Int32} {v5 : Int32} {s0 : Int32}  (K1 : (¬ s0 = (-2 : Int32)) → XS mL_refused 300 [(0, .ref 0), (1, .long v1), (3, .int v3), (5, .int v5)] [] I L Q) (K2 : (s0 = (-2 : Int32)) → XS mL_refused 242 [(0, .ref 0), (1, .long v1), (3, .int v3), (4, .int v4), (5, .int v5)] [] I L Q) : XS mL_refused 237 [(0, .ref 0), (1, .long v1), (3, .int v3), (4, .int v4), (5, .int v5)] [.int s0] I L Q := by
  refine x_bipush (v := (-2 : Int32)) dL_refused_237 (by decide) ?_
  exact x_icmp_ne 300 dL_refused_239 (by decide) (fun h => x_sub [0, 1, 2, 4] rfl (K1 h)) (fun h => K2 h)
theorem bL_refused_242 {I : Nat → Nat → Int32} {L : Nat → Int64} {Q : Option Value → (Nat → Nat → Int32) → (Nat → Int64) → Prop} {v1 : Int64} {v3 : Int32} {v4 : Int32} {v5 : Int32}  (K : XS mX9_trace 0 [(0, .ref 0), (1, .int v4)] [] I L (fun r I' L' => XS mL_refused 248 [(0, .ref 0), (1, .long v1), (3, .int v3), (4, .int v4), (5, .int v5)] (r.toList ++ []) I' L' Q)) : XS mL_refused 242 [(0, .ref 0), (1, .long v1), (3, .int v3), (4, .int v4), (5, .int v5)] [] I L Q := by
  refine x_aload_n 0 dL_refused_242 rfl rfl ?_
  refine x_iload 3 dL_refused_243 rfl ?_
  exact xs_callV mX9_trace [.int v4] [] 0 9 1 _ rfl dL_refused_245 ml_L_110 qX9_trace rfl ⟨Nat.le_of_ble_eq_true rfl, Nat.le_of_ble_eq_true rfl⟩ ⟨rfl, rfl⟩ (Nat.le_of_ble_eq_true rfl) sh_0 (by decide) rfl (Nat.le_of_ble_eq_true rfl) (K)
theorem bL_refused_248 {I : Nat → Nat → Int32} {L : Nat → Int64} {Q : Option Value → (Nat → Nat → Int32) → (Nat → Int64) → Prop} {v1 : Int64} {v3 : Int32} {v4 : Int32} {v5 : Int32} {s0 : Int32}  (K1 : (¬ s0 = (-2 : Int32)) → XS mL_refused 300 [(0, .ref 0), (1, .long v1), (3, .int v3), (5, .int v5)] [] I L Q) (K2 : (s0 = (-2 : Int32)) → XS mL_refused 253 [(0, .ref 0), (1, .long v1), (3, .int v3), (4, .int v4), (5, .int v5)] [] I L Q) : XS mL_refused 248 [(0, .ref 0), (1, .long v1), (3, .int v3), (4, .int v4), (5, .int v5)] [.int s0] I L Q := by
  refine x_bipush (v := (-2 : Int32)) dL_refused_248 (by decide) ?_
  exact x_icmp_ne 300 dL_refused_250 (by decide) (fun h => x_sub [0, 1, 2, 4] rfl (K1 h)) (fun h => K2 h)
theorem bL_refused_253 {I : Nat → Nat → Int32} {L : Nat → Int64} {Q : Option Value → (Nat → Nat → Int32) → (Nat → Int64) → Prop} {v1 : Int64} {v3 : Int32} {v4 : Int32} {v5 : Int32}  (K : XS mX9_brief 0 [(0, .ref 0), (1, .int (-2 : Int32))] [] I L (fun r I' L' => XS mL_refused 259 [(0, .ref 0), (1, .long v1), (3, .int v3), (4, .int v4), (5, .int v5)] (r.toList ++ []) I' L' Q)) : XS mL_refused 253 [(0, .ref 0), (1, .long v1), (3, .int v3), (4, .int v4), (5, .int v5)] [] I L Q := by
  refine x_aload_n 0 dL_refused_253 rfl rfl ?_
  refine x_bipush (v := (-2 : Int32)) dL_refused_254 (by decide) ?_
  exact xs_callV mX9_brief [.int (-2 : Int32)] [] 0 9 1 _ rfl dL_refused_256 ml_L_63 qX9_brief rfl ⟨Nat.le_of_ble_eq_true rfl, Nat.le_of_ble_eq_true rfl⟩ ⟨rfl, rfl⟩ (Nat.le_of_ble_eq_true rfl) sh_0 (by decide) rfl (Nat.le_of_ble_eq_true rfl) (K)
theorem bL_refused_259 {I : Nat → Nat → Int32} {L : Nat → Int64} {Q : Option Value → (Nat → Nat → Int32) → (Nat → Int64) → Prop} {v1 : Int64} {v3 : Int32} {v4 : Int32} {v5 : Int32} {s0 : Int32}  (K1 : (¬ s0 = (-3 : Int32)) → XS mL_refused 300 [(0, .ref 0), (1, .long v1), (3, .int v3), (5, .int v5)] [] I L Q) (K2 : (s0 = (-3 : Int32)) → XS mL_refused 264 [(0, .ref 0), (1, .long v1), (3, .int v3), (4, .int v4), (5, .int v5)] [] I L Q) : XS mL_refused 259 [(0, .ref 0), (1, .long v1), (3, .int v3), (4, .int v4), (5, .int v5)] [.int s0] I L Q := by
  refine x_bipush (v := (-3 : Int32)) dL_refused_259 (by decide) ?_
  exact x_icmp_ne 300 dL_refused_261 (by decide) (fun h => x_sub [0, 1, 2, 4] rfl (K1 h)) (fun h => K2 h)
theorem bL_refused_264 {I : Nat → Nat → Int32} {L : Nat → Int64} {Q : Option Value → (Nat → Nat → Int32) → (Nat → Int64) → Prop} {v1 : Int64} {v3 : Int32} {v4 : Int32} {v5 : Int32}  (K : XS mX9_protect 0 [(0, .ref 0), (1, .int (2 : Int32))] [] I L (fun r I' L' => XS mL_refused 269 [(0, .ref 0), (1, .long v1), (3, .int v3), (4, .int v4), (5, .int v5)] (r.toList ++ []) I' L' Q)) : XS mL_refused 264 [(0, .ref 0), (1, .long v1), (3, .int v3), (4, .int v4), (5, .int v5)] [] I L Q := by
  refine x_aload_n 0 dL_refused_264 rfl rfl ?_
  refine x_iconst (v := (2 : Int32)) dL_refused_265 (by decide) ?_
  exact xs_callV mX9_protect [.int (2 : Int32)] [] 0 9 1 _ rfl dL_refused_266 ml_L_113 qX9_protect rfl ⟨Nat.le_of_ble_eq_true rfl, Nat.le_of_ble_eq_true rfl⟩ ⟨rfl, rfl⟩ (Nat.le_of_ble_eq_true rfl) sh_0 (by decide) rfl (Nat.le_of_ble_eq_true rfl) (K)
theorem bL_refused_269 {I : Nat → Nat → Int32} {L : Nat → Int64} {Q : Option Value → (Nat → Nat → Int32) → (Nat → Int64) → Prop} {v1 : Int64} {v3 : Int32} {v4 : Int32} {v5 : Int32} {s0 : Int32}  (K1 : (¬ s0 = (-3 : Int32)) → XS mL_refused 300 [(0, .ref 0), (1, .long v1), (3, .int v3), (5, .int v5)] [] I L Q) (K2 : (s0 = (-3 : Int32)) → XS mL_refused 274 [(0, .ref 0), (1, .long v1), (3, .int v3), (4, .int v4), (5, .int v5)] [] I L Q) : XS mL_refused 269 [(0, .ref 0), (1, .long v1), (3, .int v3), (4, .int v4), (5, .int v5)] [.int s0] I L Q := by
  refine x_bipush (v := (-3 : Int32)) dL_refused_269 (by decide) ?_
  exact x_icmp_ne 300 dL_refused_271 (by decide) (fun h => x_sub [0, 1, 2, 4] rfl (K1 h)) (fun h => K2 h)
theorem bL_refused_274 {I : Nat → Nat → Int32} {L : Nat → Int64} {Q : Option Value → (Nat → Nat → Int32) → (Nat → Int64) → Prop} {v1 : Int64} {v3 : Int32} {v4 : Int32} {v5 : Int32}  (K : XS mX9_send 0 [(0, .ref 0), (1, .int v4)] [] I L (fun r I' L' => XS mL_refused 280 [(0, .ref 0), (1, .long v1), (3, .int v3), (5, .int v5)] (r.toList ++ []) I' L' Q)) : XS mL_refused 274 [(0, .ref 0), (1, .long v1), (3, .int v3), (4, .int v4), (5, .int v5)] [] I L Q := by
  refine x_aload_n 0 dL_refused_274 rfl rfl ?_
  refine x_iload 3 dL_refused_275 rfl ?_
  refine x_sub [0, 1, 2, 4] rfl ?_
  exact xs_callV mX9_send [.int v4] [] 0 9 1 _ rfl dL_refused_277 ml_L_116 qX9_send rfl ⟨Nat.le_of_ble_eq_true rfl, Nat.le_of_ble_eq_true rfl⟩ ⟨rfl, rfl⟩ (Nat.le_of_ble_eq_true rfl) sh_0 (by decide) rfl (Nat.le_of_ble_eq_true rfl) (K)
theorem bL_refused_280 {I : Nat → Nat → Int32} {L : Nat → Int64} {Q : Option Value → (Nat → Nat → Int32) → (Nat → Int64) → Prop} {v1 : Int64} {v3 : Int32} {v5 : Int32} {s0 : Int32}  (K1 : (¬ s0 = (-2 : Int32)) → XS mL_refused 300 [(0, .ref 0), (1, .long v1), (3, .int v3), (5, .int v5)] [] I L Q) (K2 : (s0 = (-2 : Int32)) → XS mL_refused 285 [(0, .ref 0), (1, .long v1), (3, .int v3), (5, .int v5)] [] I L Q) : XS mL_refused 280 [(0, .ref 0), (1, .long v1), (3, .int v3), (5, .int v5)] [.int s0] I L Q := by
  refine x_bipush (v := (-2 : Int32)) dL_refused_280 (by decide) ?_
  exact x_icmp_ne 300 dL_refused_282 (by decide) (fun h => K1 h) (fun h => K2 h)
theorem bL_refused_285 {I : Nat → Nat → Int32} {L : Nat → Int64} {Q : Option Value → (Nat → Nat → Int32) → (Nat → Int64) → Prop} {v1 : Int64} {v3 : Int32} {v5 : Int32}  (K : XS mX9_way 0 [(0, .ref 0), (1, .int (-2 : Int32))] [] I L (fun r I' L' => XS mL_refused 291 [(0, .ref 0), (1, .long v1), (3, .int v3), (5, .int v5)] (r.toList ++ []) I' L' Q)) : XS mL_refused 285 [(0, .ref 0), (1, .long v1), (3, .int v3), (5, .int v5)] [] I L Q := by
  refine x_aload_n 0 dL_refused_285 rfl rfl ?_
  refine x_bipush (v := (-2 : Int32)) dL_refused_286 (by decide) ?_
  exact xs_callV mX9_way [.int (-2 : Int32)] [] 0 9 1 _ rfl dL_refused_288 ml_L_119 qX9_way rfl ⟨Nat.le_of_ble_eq_true rfl, Nat.le_of_ble_eq_true rfl⟩ ⟨rfl, rfl⟩ (Nat.le_of_ble_eq_true rfl) sh_0 (by decide) rfl (Nat.le_of_ble_eq_true rfl) (K)
theorem bL_refused_291 {I : Nat → Nat → Int32} {L : Nat → Int64} {Q : Option Value → (Nat → Nat → Int32) → (Nat → Int64) → Prop} {v1 : Int64} {v3 : Int32} {v5 : Int32} {s0 : Int32}  (K1 : (¬ s0 = (-3 : Int32)) → XS mL_refused 300 [(0, .ref 0), (1, .long v1), (3, .int v3), (5, .int v5)] [] I L Q) (K2 : (s0 = (-3 : Int32)) → XS mL_refused 296 [(0, .ref 0), (1, .long v1), (3, .int v3), (5, .int v5)] [] I L Q) : XS mL_refused 291 [(0, .ref 0), (1, .long v1), (3, .int v3), (5, .int v5)] [.int s0] I L Q := by
  refine x_bipush (v := (-3 : Int32)) dL_refused_291 (by decide) ?_
  exact x_icmp_ne 300 dL_refused_293 (by decide) (fun h => K1 h) (fun h => K2 h)
theorem bL_refused_296 {I : Nat → Nat → Int32} {L : Nat → Int64} {Q : Option Value → (Nat → Nat → Int32) → (Nat → Int64) → Prop} {v1 : Int64} {v3 : Int32} {v5 : Int32}  (K : XS mL_refused 301 [(0, .ref 0), (1, .long v1), (3, .int v3), (5, .int v5)] [.int (1 : Int32)] I L Q) : XS mL_refused 296 [(0, .ref 0), (1, .long v1), (3, .int v3), (5, .int v5)] [] I L Q := by
  refine x_iconst (v := (1 : Int32)) dL_refused_296 (by decide) ?_
  exact x_goto 301 dL_refused_297 (by decide) (K)
theorem bL_refused_300 {I : Nat → Nat → Int32} {L : Nat → Int64} {Q : Option Value → (Nat → Nat → Int32) → (Nat → Int64) → Prop} {v1 : Int64} {v3 : Int32} {v5 : Int32}  (K : XS mL_refused 301 [(0, .ref 0), (1, .long v1), (3, .int v3), (5, .int v5)] [.int (0 : Int32)] I L Q) : XS mL_refused 300 [(0, .ref 0), (1, .long v1), (3, .int v3), (5, .int v5)] [] I L Q := by
  refine x_iconst (v := (0 : Int32)) dL_refused_300 (by decide) ?_
  exact K
theorem bL_refused_301 {I : Nat → Nat → Int32} {L : Nat → Int64} {Q : Option Value → (Nat → Nat → Int32) → (Nat → Int64) → Prop} {v1 : Int64} {v3 : Int32} {v5 : Int32} {s0 : Int32}  (K : XS mL_refused 306 [(0, .ref 0), (1, .long v1), (3, .int v3), (5, .int v5), (6, .int s0), (7, .int (0 : Int32))] [] I L Q) : XS mL_refused 301 [(0, .ref 0), (1, .long v1), (3, .int v3), (5, .int v5)] [.int s0] I L Q := by
  refine x_istore [(0, .ref 0), (1, .long v1), (3, .int v3), (5, .int v5), (6, .int s0)] dL_refused_301 (Nat.le_of_ble_eq_true rfl) rfl ?_
  refine x_iconst (v := (0 : Int32)) dL_refused_303 (by decide) ?_
  refine x_istore [(0, .ref 0), (1, .long v1), (3, .int v3), (5, .int v5), (6, .int s0), (7, .int (0 : Int32))] dL_refused_304 (Nat.le_of_ble_eq_true rfl) rfl ?_
  exact K
theorem bL_refused_306 {I : Nat → Nat → Int32} {L : Nat → Int64} {Q : Option Value → (Nat → Nat → Int32) → (Nat → Int64) → Prop} {v1 : Int64} {v3 : Int32} {v5 : Int32} {v6 : Int32} {v7 : Int32}  (K1 : (v5 ≤ v7) → XS mL_refused 362 [(0, .ref 0), (1, .long v1), (3, .int v3), (6, .int v6)] [] I L Q) (K2 : (¬ v5 ≤ v7) → XS mL_refused 313 [(0, .ref 0), (1, .long v1), (3, .int v3), (5, .int v5), (6, .int v6), (7, .int v7)] [] I L Q) : XS mL_refused 306 [(0, .ref 0), (1, .long v1), (3, .int v3), (5, .int v5), (6, .int v6), (7, .int v7)] [] I L Q := by
  refine x_iload 5 dL_refused_306 rfl ?_
  refine x_iload 3 dL_refused_308 rfl ?_
  exact x_icmp_ge 362 dL_refused_310 (by decide) (fun h => x_sub [0, 1, 2, 4] rfl (K1 h)) (fun h => K2 h)
theorem bL_refused_313 {I : Nat → Nat → Int32} {L : Nat → Int64} {Q : Option Value → (Nat → Nat → Int32) → (Nat → Int64) → Prop} {v1 : Int64} {v3 : Int32} {v5 : Int32} {v6 : Int32} {v7 : Int32}  (K1 : (v6 = 0) → XS mL_refused 353 [(0, .ref 0), (1, .long v1), (3, .int v3), (5, .int v5), (7, .int v7)] [] I L Q) (K2 : (¬ v6 = 0) → XS mL_refused 318 [(0, .ref 0), (1, .long v1), (3, .int v3), (5, .int v5), (7, .int v7)] [] I L Q) : XS mL_refused 313 [(0, .ref 0), (1, .long v1), (3, .int v3), (5, .int v5), (6, .int v6), (7, .int v7)] [] I L Q := by
  refine x_iload 4 dL_refused_313 rfl ?_
  exact x_if_eq 353 dL_refused_315 (by decide) (fun h => x_sub [0, 1, 2, 3, 5] rfl (K1 h)) (fun h => x_sub [0, 1, 2, 3, 5] rfl (K2 h))
theorem bL_refused_318 {I : Nat → Nat → Int32} {L : Nat → Int64} {Q : Option Value → (Nat → Nat → Int32) → (Nat → Int64) → Prop} {v1 : Int64} {v3 : Int32} {v5 : Int32} {v7 : Int32}  (K : XS mX9_link 0 [(0, .ref 0), (1, .int v7), (2, .int (4 : Int32))] [] I L (fun r I' L' => XS mL_refused 325 [(0, .ref 0), (1, .long v1), (3, .int v3), (5, .int v5), (7, .int v7)] (r.toList ++ []) I' L' Q)) : XS mL_refused 318 [(0, .ref 0), (1, .long v1), (3, .int v3), (5, .int v5), (7, .int v7)] [] I L Q := by
  refine x_aload_n 0 dL_refused_318 rfl rfl ?_
  refine x_iload 4 dL_refused_319 rfl ?_
  refine x_iconst (v := (4 : Int32)) dL_refused_321 (by decide) ?_
  exact xs_callV mX9_link [.int v7, .int (4 : Int32)] [] 0 9 2 _ rfl dL_refused_322 ml_L_52 qX9_link rfl ⟨Nat.le_of_ble_eq_true rfl, Nat.le_of_ble_eq_true rfl⟩ ⟨rfl, rfl⟩ (Nat.le_of_ble_eq_true rfl) sh_0 (by decide) rfl (Nat.le_of_ble_eq_true rfl) (K)
theorem bL_refused_325 {I : Nat → Nat → Int32} {L : Nat → Int64} {Q : Option Value → (Nat → Nat → Int32) → (Nat → Int64) → Prop} {v1 : Int64} {v3 : Int32} {v5 : Int32} {v7 : Int32} {s0 : Int32}  (K1 : (¬ s0 = (1 : Int32)) → XS mL_refused 338 [(0, .ref 0), (1, .long v1), (3, .int v3), (5, .int v5), (7, .int v7)] [] I L Q) (K2 : (s0 = (1 : Int32)) → XS mL_refused 329 [(0, .ref 0), (1, .long v1), (3, .int v3), (5, .int v5), (7, .int v7)] [] I L Q) : XS mL_refused 325 [(0, .ref 0), (1, .long v1), (3, .int v3), (5, .int v5), (7, .int v7)] [.int s0] I L Q := by
  refine x_iconst (v := (1 : Int32)) dL_refused_325 (by decide) ?_
  exact x_icmp_ne 338 dL_refused_326 (by decide) (fun h => K1 h) (fun h => K2 h)
theorem bL_refused_329 {I : Nat → Nat → Int32} {L : Nat → Int64} {Q : Option Value → (Nat → Nat → Int32) → (Nat → Int64) → Prop} {v1 : Int64} {v3 : Int32} {v5 : Int32} {v7 : Int32}  (K : XS mX9_heal 0 [(0, .ref 0), (1, .int v7)] [] I L (fun r I' L' => XS mL_refused 335 [(0, .ref 0), (1, .long v1), (3, .int v3), (5, .int v5), (7, .int v7)] (r.toList ++ []) I' L' Q)) : XS mL_refused 329 [(0, .ref 0), (1, .long v1), (3, .int v3), (5, .int v5), (7, .int v7)] [] I L Q := by
  refine x_aload_n 0 dL_refused_329 rfl rfl ?_
  refine x_iload 4 dL_refused_330 rfl ?_
  exact xs_callV mX9_heal [.int v7] [] 0 9 1 _ rfl dL_refused_332 ml_L_75 qX9_heal rfl ⟨Nat.le_of_ble_eq_true rfl, Nat.le_of_ble_eq_true rfl⟩ ⟨rfl, rfl⟩ (Nat.le_of_ble_eq_true rfl) sh_0 (by decide) rfl (Nat.le_of_ble_eq_true rfl) (K)
theorem bL_refused_335 {I : Nat → Nat → Int32} {L : Nat → Int64} {Q : Option Value → (Nat → Nat → Int32) → (Nat → Int64) → Prop} {v1 : Int64} {v3 : Int32} {v5 : Int32} {v7 : Int32} {s0 : Int32}  (K : XS mL_refused 344 [(0, .ref 0), (1, .long v1), (3, .int v3), (5, .int v5), (7, .int v7)] [.int s0] I L Q) : XS mL_refused 335 [(0, .ref 0), (1, .long v1), (3, .int v3), (5, .int v5), (7, .int v7)] [.int s0] I L Q := by
  exact x_goto 344 dL_refused_335 (by decide) (K)
theorem bL_refused_338 {I : Nat → Nat → Int32} {L : Nat → Int64} {Q : Option Value → (Nat → Nat → Int32) → (Nat → Int64) → Prop} {v1 : Int64} {v3 : Int32} {v5 : Int32} {v7 : Int32}  (K : XS mX9_fail 0 [(0, .ref 0), (1, .int v7)] [] I L (fun r I' L' => XS mL_refused 344 [(0, .ref 0), (1, .long v1), (3, .int v3), (5, .int v5), (7, .int v7)] (r.toList ++ []) I' L' Q)) : XS mL_refused 338 [(0, .ref 0), (1, .long v1), (3, .int v3), (5, .int v5), (7, .int v7)] [] I L Q := by
  refine x_aload_n 0 dL_refused_338 rfl rfl ?_
  refine x_iload 4 dL_refused_339 rfl ?_
  exact xs_callV mX9_fail [.int v7] [] 0 9 1 _ rfl dL_refused_341 ml_L_72 qX9_fail rfl ⟨Nat.le_of_ble_eq_true rfl, Nat.le_of_ble_eq_true rfl⟩ ⟨rfl, rfl⟩ (Nat.le_of_ble_eq_true rfl) sh_0 (by decide) rfl (Nat.le_of_ble_eq_true rfl) (K)
theorem bL_refused_344 {I : Nat → Nat → Int32} {L : Nat → Int64} {Q : Option Value → (Nat → Nat → Int32) → (Nat → Int64) → Prop} {v1 : Int64} {v3 : Int32} {v5 : Int32} {v7 : Int32} {s0 : Int32}  (K1 : (¬ s0 = (-4 : Int32)) → XS mL_refused 353 [(0, .ref 0), (1, .long v1), (3, .int v3), (5, .int v5), (7, .int v7)] [] I L Q) (K2 : (s0 = (-4 : Int32)) → XS mL_refused 349 [(0, .ref 0), (1, .long v1), (3, .int v3), (5, .int v5), (7, .int v7)] [] I L Q) : XS mL_refused 344 [(0, .ref 0), (1, .long v1), (3, .int v3), (5, .int v5), (7, .int v7)] [.int s0] I L Q := by
  refine x_bipush (v := (-4 : Int32)) dL_refused_344 (by decide) ?_
  exact x_icmp_ne 353 dL_refused_346 (by decide) (fun h => K1 h) (fun h => K2 h)
theorem bL_refused_349 {I : Nat → Nat → Int32} {L : Nat → Int64} {Q : Option Value → (Nat → Nat → Int32) → (Nat → Int64) → Prop} {v1 : Int64} {v3 : Int32} {v5 : Int32} {v7 : Int32}  (K : XS mL_refused 354 [(0, .ref 0), (1, .long v1), (3, .int v3), (5, .int v5), (7, .int v7)] [.int (1 : Int32)] I L Q) : XS mL_refused 349 [(0, .ref 0), (1, .long v1), (3, .int v3), (5, .int v5), (7, .int v7)] [] I L Q := by
  refine x_iconst (v := (1 : Int32)) dL_refused_349 (by decide) ?_
  exact x_goto 354 dL_refused_350 (by decide) (K)
theorem bL_refused_353 {I : Nat → Nat → Int32} {L : Nat → Int64} {Q : Option Value → (Nat → Nat → Int32) → (Nat → Int64) → Prop} {v1 : Int64} {v3 : Int32} {v5 : Int32} {v7 : Int32}  (K : XS mL_refused 354 [(0, .ref 0), (1, .long v1), (3, .int v3), (5, .int v5), (7, .int v7)] [.int (0 : Int32)] I L Q) : XS mL_refused 353 [(0, .ref 0), (1, .long v1), (3, .int v3), (5, .int v5), (7, .int v7)] [] I L Q := by
  refine x_iconst (v := (0 : Int32)) dL_refused_353 (by decide) ?_
  exact K
theorem bL_refused_354 {I : Nat → Nat → Int32} {L : Nat → Int64} {Q : Option Value → (Nat → Nat → Int32) → (Nat → Int64) → Prop} {v1 : Int64} {v3 : Int32} {v5 : Int32} {v7 : Int32} {s0 : Int32}  (K : XS mL_refused 306 [(0, .ref 0), (1, .long v1), (3, .int v3), (5, .int v5), (6, .int s0), (7, .int (v7 + (1 : Int32)))] [] I L Q) : XS mL_refused 354 [(0, .ref 0), (1, .long v1), (3, .int v3), (5, .int v5), (7, .int v7)] [.int s0] I L Q := by
  refine x_istore [(0, .ref 0), (1, .long v1), (3, .int v3), (5, .int v5), (6, .int s0), (7, .int v7)] dL_refused_354 (Nat.le_of_ble_eq_true rfl) rfl ?_
  refine x_iinc 5 (v7 + (1 : Int32)) [(0, .ref 0), (1, .long v1), (3, .int v3), (5, .int v5), (6, .int s0), (7, .int (v7 + (1 : Int32)))] dL_refused_356 rfl rfl (Nat.le_of_ble_eq_true rfl) rfl ?_
  exact x_goto 306 dL_refused_359 (by decide) (K)
theorem bL_refused_362 {I : Nat → Nat → Int32} {L : Nat → Int64} {Q : Option Value → (Nat → Nat → Int32) → (Nat → Int64) → Prop} {v1 : Int64} {v3 : Int32} {v6 : Int32}  (K1 : (v6 = 0) → XS mL_refused 390 [] [] I L Q) (K2 : (¬ v6 = 0) → XS mL_refused 367 [(0, .ref 0), (1, .long v1), (3, .int v3)] [] I L Q) : XS mL_refused 362 [(0, .ref 0), (1, .long v1), (3, .int v3), (6, .int v6)] [] I L Q := by
  refine x_iload 3 dL_refused_362 rfl ?_
  exact x_if_eq 390 dL_refused_364 (by decide) (fun h => x_sub [] rfl (K1 h)) (fun h => x_sub [0, 1, 2] rfl (K2 h))
theorem bL_refused_367 {I : Nat → Nat → Int32} {L : Nat → Int64} {Q : Option Value → (Nat → Nat → Int32) → (Nat → Int64) → Prop} {v1 : Int64} {v3 : Int32}  (K : XS mL_whole 0 [(0, .ref 0)] [] I L (fun r I' L' => XS mL_refused 371 [(0, .ref 0), (1, .long v1), (3, .int v3)] (r.toList ++ []) I' L' Q)) : XS mL_refused 367 [(0, .ref 0), (1, .long v1), (3, .int v3)] [] I L Q := by
  refine x_aload_n 0 dL_refused_367 rfl rfl ?_
  exact xs_callS mL_whole [.ref 0] [] 1 _ rfl dL_refused_368 ml_L_68 qL_whole rfl ⟨Nat.le_of_ble_eq_true rfl, Nat.le_of_ble_eq_true rfl⟩ ⟨rfl, rfl⟩ (Nat.le_of_ble_eq_true rfl) (Nat.le_of_ble_eq_true rfl) (K)
theorem bL_refused_371 {I : Nat → Nat → Int32} {L : Nat → Int64} {Q : Option Value → (Nat → Nat → Int32) → (Nat → Int64) → Prop} {v1 : Int64} {v3 : Int32} {s0 : Int64}  (K1 : (¬ (lg_cmp s0 v1) = 0) → XS mL_refused 390 [] [] I L Q) (K2 : ((lg_cmp s0 v1) = 0) → XS mL_refused 376 [(0, .ref 0), (3, .int v3)] [] I L Q) : XS mL_refused 371 [(0, .ref 0), (1, .long v1), (3, .int v3)] [.long s0] I L Q := by
  refine x_lload_n 1 dL_refused_371 rfl rfl ?_
  refine x_lcmp dL_refused_372 ?_
  exact x_if_ne 390 dL_refused_373 (by decide) (fun h => x_sub [] rfl (K1 h)) (fun h => x_sub [0, 2] rfl (K2 h))
theorem bL_refused_376 {I : Nat → Nat → Int32} {L : Nat → Int64} {Q : Option Value → (Nat → Nat → Int32) → (Nat → Int64) → Prop} {v3 : Int32}  (K : XS mX9_count 0 [(0, .ref 0), (1, .int (11 : Int32))] [] I L (fun r I' L' => XS mL_refused 382 [(3, .int v3)] (r.toList ++ []) I' L' Q)) : XS mL_refused 376 [(0, .ref 0), (3, .int v3)] [] I L Q := by
  refine x_aload_n 0 dL_refused_376 rfl rfl ?_
  refine x_bipush (v := (11 : Int32)) dL_refused_377 (by decide) ?_
  refine x_sub [1] rfl ?_
  exact xs_callV mX9_count [.int (11 : Int32)] [] 0 9 1 _ rfl dL_refused_379 ml_L_39 qX9_count rfl ⟨Nat.le_of_ble_eq_true rfl, Nat.le_of_ble_eq_true rfl⟩ ⟨rfl, rfl⟩ (Nat.le_of_ble_eq_true rfl) sh_0 (by decide) rfl (Nat.le_of_ble_eq_true rfl) (K)
theorem bL_refused_382 {I : Nat → Nat → Int32} {L : Nat → Int64} {Q : Option Value → (Nat → Nat → Int32) → (Nat → Int64) → Prop} {v3 : Int32} {s0 : Int32}  (K1 : (¬ s0 = v3) → XS mL_refused 390 [] [] I L Q) (K2 : (s0 = v3) → XS mL_refused 386 [] [] I L Q) : XS mL_refused 382 [(3, .int v3)] [.int s0] I L Q := by
  refine x_iload_n 0 dL_refused_382 rfl rfl ?_
  exact x_icmp_ne 390 dL_refused_383 (by decide) (fun h => x_sub [] rfl (K1 h)) (fun h => x_sub [] rfl (K2 h))
theorem bL_refused_386 {I : Nat → Nat → Int32} {L : Nat → Int64} {Q : Option Value → (Nat → Nat → Int32) → (Nat → Int64) → Prop}   (K : XS mL_refused 391 [] [.int (1 : Int32)] I L Q) : XS mL_refused 386 [] [] I L Q := by
  refine x_iconst (v := (1 : Int32)) dL_refused_386 (by decide) ?_
  exact x_goto 391 dL_refused_387 (by decide) (K)
theorem bL_refused_390 {I : Nat → Nat → Int32} {L : Nat → Int64} {Q : Option Value → (Nat → Nat → Int32) → (Nat → Int64) → Prop}   (K : XS mL_refused 391 [] [.int (0 : Int32)] I L Q) : XS mL_refused 390 [] [] I L Q := by
  refine x_iconst (v := (0 : Int32)) dL_refused_390 (by decide) ?_
  exact K
theorem bL_refused_391 {I : Nat → Nat → Int32} {L : Nat → Int64} {Q : Option Value → (Nat → Nat → Int32) → (Nat → Int64) → Prop} {s0 : Int32} (hz1 : s0 = 0 ∨ s0 = 1) (K : Q (some (.int s0)) I L) : XS mL_refused 391 [] [.int s0] I L Q := by
  exact xs_iret dL_refused_391 rfl (x_nar _ hz1) K
theorem bL_goes_0 {I : Nat → Nat → Int32} {L : Nat → Int64} {Q : Option Value → (Nat → Nat → Int32) → (Nat → Int64) → Prop} {v2 : Int32}  (K : XS mX9_send 0 [(0, .ref 0), (1, .int v2)] [] I L (fun r I' L' => XS mL_goes 5 [(0, .ref 0), (1, .ref 49), (2, .int v2)] (r.toList ++ []) I' L' Q)) : XS mL_goes 0 [(0, .ref 0), (1, .ref 49), (2, .int v2)] [] I L Q := by
  refine x_aload_n 0 dL_goes_0 rfl rfl ?_
  refine x_iload_n 2 dL_goes_1 rfl rfl ?_
  exact xs_callV mX9_send [.int v2] [] 0 9 1 _ rfl dL_goes_2 ml_L_116 qX9_send rfl ⟨Nat.le_of_ble_eq_true rfl, Nat.le_of_ble_eq_true rfl⟩ ⟨rfl, rfl⟩ (Nat.le_of_ble_eq_true rfl) sh_0 (by decide) rfl (Nat.le_of_ble_eq_true rfl) (K)
theorem bL_goes_5 {I : Nat → Nat → Int32} {L : Nat → Int64} {Q : Option Value → (Nat → Nat → Int32) → (Nat → Int64) → Prop} {v2 : Int32} {s0 : Int32}  (K : XS mX9_way 0 [(0, .ref 0), (1, .int (-1 : Int32))] [] I L (fun r I' L' => XS mL_goes 11 [(0, .ref 0), (1, .ref 49), (2, .int v2), (3, .int s0)] (r.toList ++ []) I' L' Q)) : XS mL_goes 5 [(0, .ref 0), (1, .ref 49), (2, .int v2)] [.int s0] I L Q := by
  refine x_istore_n [(0, .ref 0), (1, .ref 49), (2, .int v2), (3, .int s0)] dL_goes_5 rfl (Nat.le_of_ble_eq_true rfl) rfl ?_
  refine x_aload_n 0 dL_goes_6 rfl rfl ?_
  refine x_iconst (v := (-1 : Int32)) dL_goes_7 (by decide) ?_
  exact xs_callV mX9_way [.int (-1 : Int32)] [] 0 9 1 _ rfl dL_goes_8 ml_L_119 qX9_way rfl ⟨Nat.le_of_ble_eq_true rfl, Nat.le_of_ble_eq_true rfl⟩ ⟨rfl, rfl⟩ (Nat.le_of_ble_eq_true rfl) sh_0 (by decide) rfl (Nat.le_of_ble_eq_true rfl) (K)
theorem bL_goes_11 {I : Nat → Nat → Int32} {L : Nat → Int64} {Q : Option Value → (Nat → Nat → Int32) → (Nat → Int64) → Prop} {v2 : Int32} {v3 : Int32} {s0 : Int32}  (K1 : ((I 3136 0) ≤ v3) → XS mL_goes 84 [] [] I L Q) (K2 : (¬ (I 3136 0) ≤ v3) → XS mL_goes 20 [(0, .ref 0), (1, .ref 49), (2, .int v2), (3, .int v3), (4, .int s0)] [] I L Q) : XS mL_goes 11 [(0, .ref 0), (1, .ref 49), (2, .int v2), (3, .int v3)] [.int s0] I L Q := by
  refine x_istore [(0, .ref 0), (1, .ref 49), (2, .int v2), (3, .int v3), (4, .int s0)] dL_goes_11 (Nat.le_of_ble_eq_true rfl) rfl ?_
  refine x_iload_n 3 dL_goes_13 rfl rfl ?_
  refine x_aload_n 1 dL_goes_14 rfl rfl ?_
  refine x_iconst (v := (0 : Int32)) dL_goes_15 (by decide) ?_
  refine xs_iald 3136 (0) dL_goes_16 sh_49 rfl (by decide) (x_vpin (by decide)) ?_
  exact x_icmp_ge 84 dL_goes_17 (by decide) (fun h => x_sub [] rfl (K1 h)) (fun h => K2 h)
theorem bL_goes_20 {I : Nat → Nat → Int32} {L : Nat → Int64} {Q : Option Value → (Nat → Nat → Int32) → (Nat → Int64) → Prop} {v2 : Int32} {v3 : Int32} {v4 : Int32}  (K1 : (0 ≤ v3) → XS mL_goes 36 [(0, .ref 0), (1, .ref 49), (2, .int v2), (3, .int v3), (4, .int v4)] [] I L Q) (K2 : (¬ 0 ≤ v3) → XS mL_goes 24 [(0, .ref 0), (1, .ref 49), (2, .int v2), (3, .int v3), (4, .int v4)] [] I L Q) : XS mL_goes 20 [(0, .ref 0), (1, .ref 49), (2, .int v2), (3, .int v3), (4, .int v4)] [] I L Q := by
  refine x_iload_n 3 dL_goes_20 rfl rfl ?_
  exact x_if_ge 36 dL_goes_21 (by decide) (fun h => K1 h) (fun h => K2 h)
theorem bL_goes_24 {I : Nat → Nat → Int32} {L : Nat → Int64} {Q : Option Value → (Nat → Nat → Int32) → (Nat → Int64) → Prop} {v2 : Int32} {v3 : Int32} {v4 : Int32}  (K1 : ((-11 : Int32) < v3) → XS mL_goes 84 [] [] I L Q) (K2 : (¬ (-11 : Int32) < v3) → XS mL_goes 30 [(0, .ref 0), (1, .ref 49), (2, .int v2), (3, .int v3), (4, .int v4)] [] I L Q) : XS mL_goes 24 [(0, .ref 0), (1, .ref 49), (2, .int v2), (3, .int v3), (4, .int v4)] [] I L Q := by
  refine x_iload_n 3 dL_goes_24 rfl rfl ?_
  refine x_bipush (v := (-11 : Int32)) dL_goes_25 (by decide) ?_
  exact x_icmp_gt 84 dL_goes_27 (by decide) (fun h => x_sub [] rfl (K1 h)) (fun h => K2 h)
theorem bL_goes_30 {I : Nat → Nat → Int32} {L : Nat → Int64} {Q : Option Value → (Nat → Nat → Int32) → (Nat → Int64) → Prop} {v2 : Int32} {v3 : Int32} {v4 : Int32}  (K1 : (v3 < (-14 : Int32)) → XS mL_goes 84 [] [] I L Q) (K2 : (¬ v3 < (-14 : Int32)) → XS mL_goes 36 [(0, .ref 0), (1, .ref 49), (2, .int v2), (3, .int v3), (4, .int v4)] [] I L Q) : XS mL_goes 30 [(0, .ref 0), (1, .ref 49), (2, .int v2), (3, .int v3), (4, .int v4)] [] I L Q := by
  refine x_iload_n 3 dL_goes_30 rfl rfl ?_
  refine x_bipush (v := (-14 : Int32)) dL_goes_31 (by decide) ?_
  exact x_icmp_lt 84 dL_goes_33 (by decide) (fun h => x_sub [] rfl (K1 h)) (fun h => K2 h)
theorem bL_goes_36 {I : Nat → Nat → Int32} {L : Nat → Int64} {Q : Option Value → (Nat → Nat → Int32) → (Nat → Int64) → Prop} {v2 : Int32} {v3 : Int32} {v4 : Int32}  (K1 : (v4 < 0) → XS mL_goes 84 [] [] I L Q) (K2 : (¬ v4 < 0) → XS mL_goes 41 [(0, .ref 0), (1, .ref 49), (2, .int v2), (3, .int v3), (4, .int v4)] [] I L Q) : XS mL_goes 36 [(0, .ref 0), (1, .ref 49), (2, .int v2), (3, .int v3), (4, .int v4)] [] I L Q := by
  refine x_iload 4 dL_goes_36 rfl ?_
  exact x_if_lt 84 dL_goes_38 (by decide) (fun h => x_sub [] rfl (K1 h)) (fun h => K2 h)
theorem bL_goes_41 {I : Nat → Nat → Int32} {L : Nat → Int64} {Q : Option Value → (Nat → Nat → Int32) → (Nat → Int64) → Prop} {v2 : Int32} {v3 : Int32} {v4 : Int32}  (K1 : ((20 : Int32) < v4) → XS mL_goes 84 [] [] I L Q) (K2 : (¬ (20 : Int32) < v4) → XS mL_goes 48 [(0, .ref 0), (1, .ref 49), (2, .int v2), (3, .int v3), (4, .int v4)] [] I L Q) : XS mL_goes 41 [(0, .ref 0), (1, .ref 49), (2, .int v2), (3, .int v3), (4, .int v4)] [] I L Q := by
  refine x_iload 4 dL_goes_41 rfl ?_
  refine x_bipush (v := (20 : Int32)) dL_goes_43 (by decide) ?_
  exact x_icmp_gt 84 dL_goes_45 (by decide) (fun h => x_sub [] rfl (K1 h)) (fun h => K2 h)
theorem bL_goes_48 {I : Nat → Nat → Int32} {L : Nat → Int64} {Q : Option Value → (Nat → Nat → Int32) → (Nat → Int64) → Prop} {v2 : Int32} {v3 : Int32} {v4 : Int32}  (K : XS mX9_way 0 [(0, .ref 0), (1, .int (0 : Int32))] [] I L (fun r I' L' => XS mL_goes 53 [(0, .ref 0), (1, .ref 49), (2, .int v2), (3, .int v3), (4, .int v4)] (r.toList ++ []) I' L' Q)) : XS mL_goes 48 [(0, .ref 0), (1, .ref 49), (2, .int v2), (3, .int v3), (4, .int v4)] [] I L Q := by
  refine x_aload_n 0 dL_goes_48 rfl rfl ?_
  refine x_iconst (v := (0 : Int32)) dL_goes_49 (by decide) ?_
  exact xs_callV mX9_way [.int (0 : Int32)] [] 0 9 1 _ rfl dL_goes_50 ml_L_119 qX9_way rfl ⟨Nat.le_of_ble_eq_true rfl, Nat.le_of_ble_eq_true rfl⟩ ⟨rfl, rfl⟩ (Nat.le_of_ble_eq_true rfl) sh_0 (by decide) rfl (Nat.le_of_ble_eq_true rfl) (K)
theorem bL_goes_53 {I : Nat → Nat → Int32} {L : Nat → Int64} {Q : Option Value → (Nat → Nat → Int32) → (Nat → Int64) → Prop} {v2 : Int32} {v3 : Int32} {v4 : Int32} {s0 : Int32}  (K1 : (¬ s0 = v2) → XS mL_goes 84 [] [] I L Q) (K2 : (s0 = v2) → XS mL_goes 57 [(0, .ref 0), (1, .ref 49), (3, .int v3), (4, .int v4)] [] I L Q) : XS mL_goes 53 [(0, .ref 0), (1, .ref 49), (2, .int v2), (3, .int v3), (4, .int v4)] [.int s0] I L Q := by
  refine x_iload_n 2 dL_goes_53 rfl rfl ?_
  exact x_icmp_ne 84 dL_goes_54 (by decide) (fun h => x_sub [] rfl (K1 h)) (fun h => x_sub [0, 1, 3, 4] rfl (K2 h))
theorem bL_goes_57 {I : Nat → Nat → Int32} {L : Nat → Int64} {Q : Option Value → (Nat → Nat → Int32) → (Nat → Int64) → Prop} {v3 : Int32} {v4 : Int32}  (K1 : (v3 < 0) → XS mL_goes 71 [(0, .ref 0), (1, .ref 49), (3, .int v3), (4, .int v4)] [] I L Q) (K2 : (¬ v3 < 0) → XS mL_goes 61 [(0, .ref 0), (1, .ref 49), (3, .int v3), (4, .int v4)] [] I L Q) : XS mL_goes 57 [(0, .ref 0), (1, .ref 49), (3, .int v3), (4, .int v4)] [] I L Q := by
  refine x_iload_n 2 dL_goes_57 rfl rfl ?_
  exact x_if_lt 71 dL_goes_58 (by decide) (fun h => K1 h) (fun h => K2 h)
theorem bL_goes_61 {I : Nat → Nat → Int32} {L : Nat → Int64} {Q : Option Value → (Nat → Nat → Int32) → (Nat → Int64) → Prop} {v3 : Int32} {v4 : Int32}  (K : XS mX9_way 0 [(0, .ref 0), (1, .int v4)] [] I L (fun r I' L' => XS mL_goes 67 [(0, .ref 0), (1, .ref 49), (3, .int v3), (4, .int v4)] (r.toList ++ []) I' L' Q)) : XS mL_goes 61 [(0, .ref 0), (1, .ref 49), (3, .int v3), (4, .int v4)] [] I L Q := by
  refine x_aload_n 0 dL_goes_61 rfl rfl ?_
  refine x_iload 3 dL_goes_62 rfl ?_
  exact xs_callV mX9_way [.int v4] [] 0 9 1 _ rfl dL_goes_64 ml_L_119 qX9_way rfl ⟨Nat.le_of_ble_eq_true rfl, Nat.le_of_ble_eq_true rfl⟩ ⟨rfl, rfl⟩ (Nat.le_of_ble_eq_true rfl) sh_0 (by decide) rfl (Nat.le_of_ble_eq_true rfl) (K)
theorem bL_goes_67 {I : Nat → Nat → Int32} {L : Nat → Int64} {Q : Option Value → (Nat → Nat → Int32) → (Nat → Int64) → Prop} {v3 : Int32} {v4 : Int32} {s0 : Int32}  (K1 : (¬ s0 = v3) → XS mL_goes 84 [] [] I L Q) (K2 : (s0 = v3) → XS mL_goes 71 [(0, .ref 0), (1, .ref 49), (3, .int v3), (4, .int v4)] [] I L Q) : XS mL_goes 67 [(0, .ref 0), (1, .ref 49), (3, .int v3), (4, .int v4)] [.int s0] I L Q := by
  refine x_iload_n 2 dL_goes_67 rfl rfl ?_
  exact x_icmp_ne 84 dL_goes_68 (by decide) (fun h => x_sub [] rfl (K1 h)) (fun h => K2 h)
theorem bL_goes_71 {I : Nat → Nat → Int32} {L : Nat → Int64} {Q : Option Value → (Nat → Nat → Int32) → (Nat → Int64) → Prop} {v3 : Int32} {v4 : Int32}  (K1 : (¬ v3 = (-14 : Int32)) → XS mL_goes 86 [(0, .ref 0), (1, .ref 49), (4, .int v4)] [] I L Q) (K2 : (v3 = (-14 : Int32)) → XS mL_goes 77 [(0, .ref 0), (1, .ref 49), (4, .int v4)] [] I L Q) : XS mL_goes 71 [(0, .ref 0), (1, .ref 49), (3, .int v3), (4, .int v4)] [] I L Q := by
  refine x_iload_n 2 dL_goes_71 rfl rfl ?_
  refine x_bipush (v := (-14 : Int32)) dL_goes_72 (by decide) ?_
  exact x_icmp_ne 86 dL_goes_74 (by decide) (fun h => x_sub [0, 1, 3] rfl (K1 h)) (fun h => x_sub [0, 1, 3] rfl (K2 h))
theorem bL_goes_77 {I : Nat → Nat → Int32} {L : Nat → Int64} {Q : Option Value → (Nat → Nat → Int32) → (Nat → Int64) → Prop} {v4 : Int32}  (K1 : (v4 = (20 : Int32)) → XS mL_goes 86 [(0, .ref 0), (1, .ref 49), (4, .int v4)] [] I L Q) (K2 : (¬ v4 = (20 : Int32)) → XS mL_goes 84 [] [] I L Q) : XS mL_goes 77 [(0, .ref 0), (1, .ref 49), (4, .int v4)] [] I L Q := by
  refine x_iload 2 dL_goes_77 rfl ?_
  refine x_bipush (v := (20 : Int32)) dL_goes_79 (by decide) ?_
  exact x_icmp_eq 86 dL_goes_81 (by decide) (fun h => K1 h) (fun h => x_sub [] rfl (K2 h))
theorem bL_goes_84 {I : Nat → Nat → Int32} {L : Nat → Int64} {Q : Option Value → (Nat → Nat → Int32) → (Nat → Int64) → Prop}   (K : Q (some (.int (0 : Int32))) I L) : XS mL_goes 84 [] [] I L Q := by
  refine x_iconst (v := (0 : Int32)) dL_goes_84 (by decide) ?_
  exact xs_iret dL_goes_85 rfl (x_nar _ (Or.inl rfl)) K
theorem bL_goes_86 {I : Nat → Nat → Int32} {L : Nat → Int64} {Q : Option Value → (Nat → Nat → Int32) → (Nat → Int64) → Prop} {v4 : Int32}  (K : XS mL_goes 89 [(0, .ref 0), (1, .ref 49), (4, .int v4), (5, .int (1 : Int32))] [] I L Q) : XS mL_goes 86 [(0, .ref 0), (1, .ref 49), (4, .int v4)] [] I L Q := by
  refine x_iconst (v := (1 : Int32)) dL_goes_86 (by decide) ?_
  refine x_istore [(0, .ref 0), (1, .ref 49), (4, .int v4), (5, .int (1 : Int32))] dL_goes_87 (Nat.le_of_ble_eq_true rfl) rfl ?_
  exact K
theorem bL_goes_89 {I : Nat → Nat → Int32} {L : Nat → Int64} {Q : Option Value → (Nat → Nat → Int32) → (Nat → Int64) → Prop} {v4 : Int32} {v5 : Int32}  (K1 : (v4 < v5) → XS mL_goes 151 [] [] I L Q) (K2 : (¬ v4 < v5) → XS mL_goes 96 [(0, .ref 0), (1, .ref 49), (4, .int v4), (5, .int v5)] [] I L Q) : XS mL_goes 89 [(0, .ref 0), (1, .ref 49), (4, .int v4), (5, .int v5)] [] I L Q := by
  refine x_iload 3 dL_goes_89 rfl ?_
  refine x_iload 2 dL_goes_91 rfl ?_
  exact x_icmp_gt 151 dL_goes_93 (by decide) (fun h => x_sub [] rfl (K1 h)) (fun h => K2 h)
theorem bL_goes_96 {I : Nat → Nat → Int32} {L : Nat → Int64} {Q : Option Value → (Nat → Nat → Int32) → (Nat → Int64) → Prop} {v4 : Int32} {v5 : Int32}  (K : XS mX9_way 0 [(0, .ref 0), (1, .int (v5 - (1 : Int32)))] [] I L (fun r I' L' => XS mL_goes 105 [(0, .ref 0), (1, .ref 49), (4, .int v4), (5, .int v5)] (r.toList ++ [.ref 49]) I' L' Q)) : XS mL_goes 96 [(0, .ref 0), (1, .ref 49), (4, .int v4), (5, .int v5)] [] I L Q := by
  refine x_aload_n 1 dL_goes_96 rfl rfl ?_
  refine x_aload_n 0 dL_goes_97 rfl rfl ?_
  refine x_iload 3 dL_goes_98 rfl ?_
  refine x_iconst (v := (1 : Int32)) dL_goes_100 (by decide) ?_
  refine x_isub dL_goes_101 ?_
  exact xs_callV mX9_way [.int (v5 - (1 : Int32))] [.ref 49] 0 9 1 _ rfl dL_goes_102 ml_L_119 qX9_way rfl ⟨Nat.le_of_ble_eq_true rfl, Nat.le_of_ble_eq_true rfl⟩ ⟨rfl, rfl⟩ (Nat.le_of_ble_eq_true rfl) sh_0 (by decide) rfl (Nat.le_of_ble_eq_true rfl) (K)
theorem bL_goes_105 {I : Nat → Nat → Int32} {L : Nat → Int64} {Q : Option Value → (Nat → Nat → Int32) → (Nat → Int64) → Prop} {v4 : Int32} {v5 : Int32} {s1 : Int32}  (K : XS mX9_way 0 [(0, .ref 0), (1, .int v5)] [] I L (fun r I' L' => XS mL_goes 111 [(0, .ref 0), (1, .ref 49), (4, .int v4), (5, .int v5)] (r.toList ++ [.int s1, .ref 49]) I' L' Q)) : XS mL_goes 105 [(0, .ref 0), (1, .ref 49), (4, .int v4), (5, .int v5)] [.int s1, .ref 49] I L Q := by
  refine x_aload_n 0 dL_goes_105 rfl rfl ?_
  refine x_iload 3 dL_goes_106 rfl ?_
  exact xs_callV mX9_way [.int v5] [.int s1, .ref 49] 0 9 1 _ rfl dL_goes_108 ml_L_119 qX9_way rfl ⟨Nat.le_of_ble_eq_true rfl, Nat.le_of_ble_eq_true rfl⟩ ⟨rfl, rfl⟩ (Nat.le_of_ble_eq_true rfl) sh_0 (by decide) rfl (Nat.le_of_ble_eq_true rfl) (K)
theorem bL_goes_111 {I : Nat → Nat → Int32} {L : Nat → Int64} {Q : Option Value → (Nat → Nat → Int32) → (Nat → Int64) → Prop} {v4 : Int32} {v5 : Int32} {s1 : Int32} {s2 : Int32}  (K : XS mL_linkOf 0 [(0, .ref 49), (1, .int s1), (2, .int s2)] [] I L (fun r I' L' => XS mL_goes 114 [(0, .ref 0), (1, .ref 49), (4, .int v4), (5, .int v5)] (r.toList ++ []) I' L' Q)) : XS mL_goes 111 [(0, .ref 0), (1, .ref 49), (4, .int v4), (5, .int v5)] [.int s2, .int s1, .ref 49] I L Q := by
  exact xs_callS mL_linkOf [.ref 49, .int s1, .int s2] [] 3 _ rfl dL_goes_111 ml_L_29 qL_linkOf rfl ⟨Nat.le_of_ble_eq_true rfl, Nat.le_of_ble_eq_true rfl⟩ ⟨rfl, rfl⟩ (Nat.le_of_ble_eq_true rfl) (Nat.le_of_ble_eq_true rfl) (K)
theorem bL_goes_114 {I : Nat → Nat → Int32} {L : Nat → Int64} {Q : Option Value → (Nat → Nat → Int32) → (Nat → Int64) → Prop} {v4 : Int32} {v5 : Int32} {s0 : Int32}  (K1 : (s0 < 0) → XS mL_goes 143 [] [] I L Q) (K2 : (¬ s0 < 0) → XS mL_goes 121 [(0, .ref 0), (1, .ref 49), (4, .int v4), (5, .int v5), (6, .int s0)] [] I L Q) : XS mL_goes 114 [(0, .ref 0), (1, .ref 49), (4, .int v4), (5, .int v5)] [.int s0] I L Q := by
  refine x_istore [(0, .ref 0), (1, .ref 49), (4, .int v4), (5, .int v5), (6, .int s0)] dL_goes_114 (Nat.le_of_ble_eq_true rfl) rfl ?_
  refine x_iload 4 dL_goes_116 rfl ?_
  exact x_if_lt 143 dL_goes_118 (by decide) (fun h => x_sub [] rfl (K1 h)) (fun h => K2 h)
theorem bL_goes_121 {I : Nat → Nat → Int32} {L : Nat → Int64} {Q : Option Value → (Nat → Nat → Int32) → (Nat → Int64) → Prop} {v4 : Int32} {v5 : Int32} {v6 : Int32}  (K : XS mX9_link 0 [(0, .ref 0), (1, .int v6), (2, .int (4 : Int32))] [] I L (fun r I' L' => XS mL_goes 128 [(0, .ref 0), (1, .ref 49), (4, .int v4), (5, .int v5), (6, .int v6)] (r.toList ++ []) I' L' Q)) : XS mL_goes 121 [(0, .ref 0), (1, .ref 49), (4, .int v4), (5, .int v5), (6, .int v6)] [] I L Q := by
  refine x_aload_n 0 dL_goes_121 rfl rfl ?_
  refine x_iload 4 dL_goes_122 rfl ?_
  refine x_iconst (v := (4 : Int32)) dL_goes_124 (by decide) ?_
  exact xs_callV mX9_link [.int v6, .int (4 : Int32)] [] 0 9 2 _ rfl dL_goes_125 ml_L_52 qX9_link rfl ⟨Nat.le_of_ble_eq_true rfl, Nat.le_of_ble_eq_true rfl⟩ ⟨rfl, rfl⟩ (Nat.le_of_ble_eq_true rfl) sh_0 (by decide) rfl (Nat.le_of_ble_eq_true rfl) (K)
theorem bL_goes_128 {I : Nat → Nat → Int32} {L : Nat → Int64} {Q : Option Value → (Nat → Nat → Int32) → (Nat → Int64) → Prop} {v4 : Int32} {v5 : Int32} {v6 : Int32} {s0 : Int32}  (K1 : (¬ s0 = (1 : Int32)) → XS mL_goes 143 [] [] I L Q) (K2 : (s0 = (1 : Int32)) → XS mL_goes 132 [(0, .ref 0), (1, .ref 49), (4, .int v4), (5, .int v5), (6, .int v6)] [] I L Q) : XS mL_goes 128 [(0, .ref 0), (1, .ref 49), (4, .int v4), (5, .int v5), (6, .int v6)] [.int s0] I L Q := by
  refine x_iconst (v := (1 : Int32)) dL_goes_128 (by decide) ?_
  exact x_icmp_ne 143 dL_goes_129 (by decide) (fun h => x_sub [] rfl (K1 h)) (fun h => K2 h)
theorem bL_goes_132 {I : Nat → Nat → Int32} {L : Nat → Int64} {Q : Option Value → (Nat → Nat → Int32) → (Nat → Int64) → Prop} {v4 : Int32} {v5 : Int32} {v6 : Int32}  (K : XS mX9_link 0 [(0, .ref 0), (1, .int v6), (2, .int (5 : Int32))] [] I L (fun r I' L' => XS mL_goes 139 [(0, .ref 0), (1, .ref 49), (4, .int v4), (5, .int v5)] (r.toList ++ []) I' L' Q)) : XS mL_goes 132 [(0, .ref 0), (1, .ref 49), (4, .int v4), (5, .int v5), (6, .int v6)] [] I L Q := by
  refine x_aload_n 0 dL_goes_132 rfl rfl ?_
  refine x_iload 4 dL_goes_133 rfl ?_
  refine x_iconst (v := (5 : Int32)) dL_goes_135 (by decide) ?_
  refine x_sub [0, 1, 2, 3] rfl ?_
  exact xs_callV mX9_link [.int v6, .int (5 : Int32)] [] 0 9 2 _ rfl dL_goes_136 ml_L_52 qX9_link rfl ⟨Nat.le_of_ble_eq_true rfl, Nat.le_of_ble_eq_true rfl⟩ ⟨rfl, rfl⟩ (Nat.le_of_ble_eq_true rfl) sh_0 (by decide) rfl (Nat.le_of_ble_eq_true rfl) (K)
theorem bL_goes_139 {I : Nat → Nat → Int32} {L : Nat → Int64} {Q : Option Value → (Nat → Nat → Int32) → (Nat → Int64) → Prop} {v4 : Int32} {v5 : Int32} {s0 : Int32}  (K1 : ((1 : Int32) ≤ s0) → XS mL_goes 145 [(0, .ref 0), (1, .ref 49), (4, .int v4), (5, .int v5)] [] I L Q) (K2 : (¬ (1 : Int32) ≤ s0) → XS mL_goes 143 [] [] I L Q) : XS mL_goes 139 [(0, .ref 0), (1, .ref 49), (4, .int v4), (5, .int v5)] [.int s0] I L Q := by
  refine x_iconst (v := (1 : Int32)) dL_goes_139 (by decide) ?_
  exact x_icmp_ge 145 dL_goes_140 (by decide) (fun h => K1 h) (fun h => x_sub [] rfl (K2 h))
theorem bL_goes_143 {I : Nat → Nat → Int32} {L : Nat → Int64} {Q : Option Value → (Nat → Nat → Int32) → (Nat → Int64) → Prop}   (K : Q (some (.int (0 : Int32))) I L) : XS mL_goes 143 [] [] I L Q := by
  refine x_iconst (v := (0 : Int32)) dL_goes_143 (by decide) ?_
  exact xs_iret dL_goes_144 rfl (x_nar _ (Or.inl rfl)) K
theorem bL_goes_145 {I : Nat → Nat → Int32} {L : Nat → Int64} {Q : Option Value → (Nat → Nat → Int32) → (Nat → Int64) → Prop} {v4 : Int32} {v5 : Int32}  (K : XS mL_goes 89 [(0, .ref 0), (1, .ref 49), (4, .int v4), (5, .int (v5 + (1 : Int32)))] [] I L Q) : XS mL_goes 145 [(0, .ref 0), (1, .ref 49), (4, .int v4), (5, .int v5)] [] I L Q := by
  refine x_iinc 3 (v5 + (1 : Int32)) [(0, .ref 0), (1, .ref 49), (4, .int v4), (5, .int (v5 + (1 : Int32)))] dL_goes_145 rfl rfl (Nat.le_of_ble_eq_true rfl) rfl ?_
  exact x_goto 89 dL_goes_148 (by decide) (K)
theorem bL_goes_151 {I : Nat → Nat → Int32} {L : Nat → Int64} {Q : Option Value → (Nat → Nat → Int32) → (Nat → Int64) → Prop}   (K : Q (some (.int (1 : Int32))) I L) : XS mL_goes 151 [] [] I L Q := by
  refine x_iconst (v := (1 : Int32)) dL_goes_151 (by decide) ?_
  exact xs_iret dL_goes_152 rfl (x_nar _ (Or.inr rfl)) K
theorem bL_arrives_0 {I : Nat → Nat → Int32} {L : Nat → Int64} {Q : Option Value → (Nat → Nat → Int32) → (Nat → Int64) → Prop} {v2 : Int32}  (K : XS mL_arrives 2 [(0, .ref 0), (1, .ref 49), (2, .int v2), (3, .int (0 : Int32))] [] I L Q) : XS mL_arrives 0 [(0, .ref 0), (1, .ref 49), (2, .int v2)] [] I L Q := by
  refine x_iconst (v := (0 : Int32)) dL_arrives_0 (by decide) ?_
  refine x_istore_n [(0, .ref 0), (1, .ref 49), (2, .int v2), (3, .int (0 : Int32))] dL_arrives_1 rfl (Nat.le_of_ble_eq_true rfl) rfl ?_
  exact K
theorem bL_arrives_2 {I : Nat → Nat → Int32} {L : Nat → Int64} {Q : Option Value → (Nat → Nat → Int32) → (Nat → Int64) → Prop} {v2 : Int32} {v3 : Int32}  (K1 : ((I 3136 0) ≤ v3) → XS mL_arrives 25 [(0, .ref 0), (1, .ref 49), (2, .int v2)] [] I L Q) (K2 : (¬ (I 3136 0) ≤ v3) → XS mL_arrives 9 [(0, .ref 0), (1, .ref 49), (2, .int v2), (3, .int v3)] [] I L Q) : XS mL_arrives 2 [(0, .ref 0), (1, .ref 49), (2, .int v2), (3, .int v3)] [] I L Q := by
  refine x_iload_n 3 dL_arrives_2 rfl rfl ?_
  refine x_aload_n 1 dL_arrives_3 rfl rfl ?_
  refine x_iconst (v := (0 : Int32)) dL_arrives_4 (by decide) ?_
  refine xs_iald 3136 (0) dL_arrives_5 sh_49 rfl (by decide) (x_vpin (by decide)) ?_
  exact x_icmp_ge 25 dL_arrives_6 (by decide) (fun h => x_sub [0, 1, 2] rfl (K1 h)) (fun h => K2 h)
theorem bL_arrives_9 {I : Nat → Nat → Int32} {L : Nat → Int64} {Q : Option Value → (Nat → Nat → Int32) → (Nat → Int64) → Prop} {v2 : Int32} {v3 : Int32}  (K : XS mX9_learn 0 [(0, .ref 0), (1, .int v3)] [] I L (fun r I' L' => XS mL_arrives 14 [(0, .ref 0), (1, .ref 49), (2, .int v2), (3, .int v3)] (r.toList ++ []) I' L' Q)) : XS mL_arrives 9 [(0, .ref 0), (1, .ref 49), (2, .int v2), (3, .int v3)] [] I L Q := by
  refine x_aload_n 0 dL_arrives_9 rfl rfl ?_
  refine x_iload_n 3 dL_arrives_10 rfl rfl ?_
  exact xs_callV mX9_learn [.int v3] [] 0 9 1 _ rfl dL_arrives_11 ml_L_82 qX9_learn rfl ⟨Nat.le_of_ble_eq_true rfl, Nat.le_of_ble_eq_true rfl⟩ ⟨rfl, rfl⟩ (Nat.le_of_ble_eq_true rfl) sh_0 (by decide) rfl (Nat.le_of_ble_eq_true rfl) (K)
theorem bL_arrives_14 {I : Nat → Nat → Int32} {L : Nat → Int64} {Q : Option Value → (Nat → Nat → Int32) → (Nat → Int64) → Prop} {v2 : Int32} {v3 : Int32} {s0 : Int32}  (K1 : (0 ≤ s0) → XS mL_arrives 19 [(0, .ref 0), (1, .ref 49), (2, .int v2), (3, .int v3)] [] I L Q) (K2 : (¬ 0 ≤ s0) → XS mL_arrives 17 [] [] I L Q) : XS mL_arrives 14 [(0, .ref 0), (1, .ref 49), (2, .int v2), (3, .int v3)] [.int s0] I L Q := by
  exact x_if_ge 19 dL_arrives_14 (by decide) (fun h => K1 h) (fun h => x_sub [] rfl (K2 h))
theorem bL_arrives_17 {I : Nat → Nat → Int32} {L : Nat → Int64} {Q : Option Value → (Nat → Nat → Int32) → (Nat → Int64) → Prop}   (K : Q (some (.int (0 : Int32))) I L) : XS mL_arrives 17 [] [] I L Q := by
  refine x_iconst (v := (0 : Int32)) dL_arrives_17 (by decide) ?_
  exact xs_iret dL_arrives_18 rfl (x_nar _ (Or.inl rfl)) K
theorem bL_arrives_19 {I : Nat → Nat → Int32} {L : Nat → Int64} {Q : Option Value → (Nat → Nat → Int32) → (Nat → Int64) → Prop} {v2 : Int32} {v3 : Int32}  (K : XS mL_arrives 2 [(0, .ref 0), (1, .ref 49), (2, .int v2), (3, .int (v3 + (1 : Int32)))] [] I L Q) : XS mL_arrives 19 [(0, .ref 0), (1, .ref 49), (2, .int v2), (3, .int v3)] [] I L Q := by
  refine x_iinc 3 (v3 + (1 : Int32)) [(0, .ref 0), (1, .ref 49), (2, .int v2), (3, .int (v3 + (1 : Int32)))] dL_arrives_19 rfl rfl (Nat.le_of_ble_eq_true rfl) rfl ?_
  exact x_goto 2 dL_arrives_22 (by decide) (K)
theorem bL_arrives_25 {I : Nat → Nat → Int32} {L : Nat → Int64} {Q : Option Value → (Nat → Nat → Int32) → (Nat → Int64) → Prop} {v2 : Int32}  (K : XS mX9_count 0 [(0, .ref 0), (1, .int (3 : Int32))] [] I L (fun r I' L' => XS mL_arrives 30 [(0, .ref 0), (1, .ref 49), (2, .int v2)] (r.toList ++ []) I' L' Q)) : XS mL_arrives 25 [(0, .ref 0), (1, .ref 49), (2, .int v2)] [] I L Q := by
  refine x_aload_n 0 dL_arrives_25 rfl rfl ?_
  refine x_iconst (v := (3 : Int32)) dL_arrives_26 (by decide) ?_
  exact xs_callV mX9_count [.int (3 : Int32)] [] 0 9 1 _ rfl dL_arrives_27 ml_L_39 qX9_count rfl ⟨Nat.le_of_ble_eq_true rfl, Nat.le_of_ble_eq_true rfl⟩ ⟨rfl, rfl⟩ (Nat.le_of_ble_eq_true rfl) sh_0 (by decide) rfl (Nat.le_of_ble_eq_true rfl) (K)
theorem bL_arrives_30 {I : Nat → Nat → Int32} {L : Nat → Int64} {Q : Option Value → (Nat → Nat → Int32) → (Nat → Int64) → Prop} {v2 : Int32} {s0 : Int32}  (K1 : (¬ s0 = 0) → XS mL_arrives 50 [] [] I L Q) (K2 : (s0 = 0) → XS mL_arrives 33 [(0, .ref 0), (1, .ref 49), (2, .int v2)] [] I L Q) : XS mL_arrives 30 [(0, .ref 0), (1, .ref 49), (2, .int v2)] [.int s0] I L Q := by
  exact x_if_ne 50 dL_arrives_30 (by decide) (fun h => x_sub [] rfl (K1 h)) (fun h => K2 h)
theorem bL_arrives_33 {I : Nat → Nat → Int32} {L : Nat → Int64} {Q : Option Value → (Nat → Nat → Int32) → (Nat → Int64) → Prop} {v2 : Int32}  (K : XS mX9_order 0 [(0, .ref 0), (1, .int (-1 : Int32))] [] I L (fun r I' L' => XS mL_arrives 38 [(0, .ref 0), (1, .ref 49), (2, .int v2)] (r.toList ++ []) I' L' Q)) : XS mL_arrives 33 [(0, .ref 0), (1, .ref 49), (2, .int v2)] [] I L Q := by
  refine x_aload_n 0 dL_arrives_33 rfl rfl ?_
  refine x_iconst (v := (-1 : Int32)) dL_arrives_34 (by decide) ?_
  exact xs_callV mX9_order [.int (-1 : Int32)] [] 0 9 1 _ rfl dL_arrives_35 ml_L_100 qX9_order rfl ⟨Nat.le_of_ble_eq_true rfl, Nat.le_of_ble_eq_true rfl⟩ ⟨rfl, rfl⟩ (Nat.le_of_ble_eq_true rfl) sh_0 (by decide) rfl (Nat.le_of_ble_eq_true rfl) (K)
theorem bL_arrives_38 {I : Nat → Nat → Int32} {L : Nat → Int64} {Q : Option Value → (Nat → Nat → Int32) → (Nat → Int64) → Prop} {v2 : Int32} {s0 : Int32}  (K1 : (¬ s0 = 0) → XS mL_arrives 50 [] [] I L Q) (K2 : (s0 = 0) → XS mL_arrives 41 [(0, .ref 0), (1, .ref 49), (2, .int v2)] [] I L Q) : XS mL_arrives 38 [(0, .ref 0), (1, .ref 49), (2, .int v2)] [.int s0] I L Q := by
  exact x_if_ne 50 dL_arrives_38 (by decide) (fun h => x_sub [] rfl (K1 h)) (fun h => K2 h)
theorem bL_arrives_41 {I : Nat → Nat → Int32} {L : Nat → Int64} {Q : Option Value → (Nat → Nat → Int32) → (Nat → Int64) → Prop} {v2 : Int32}  (K : XS mX9_order 0 [(0, .ref 0), (1, .int (0 : Int32))] [] I L (fun r I' L' => XS mL_arrives 46 [(0, .ref 0), (1, .ref 49), (2, .int v2)] (r.toList ++ []) I' L' Q)) : XS mL_arrives 41 [(0, .ref 0), (1, .ref 49), (2, .int v2)] [] I L Q := by
  refine x_aload_n 0 dL_arrives_41 rfl rfl ?_
  refine x_iconst (v := (0 : Int32)) dL_arrives_42 (by decide) ?_
  exact xs_callV mX9_order [.int (0 : Int32)] [] 0 9 1 _ rfl dL_arrives_43 ml_L_100 qX9_order rfl ⟨Nat.le_of_ble_eq_true rfl, Nat.le_of_ble_eq_true rfl⟩ ⟨rfl, rfl⟩ (Nat.le_of_ble_eq_true rfl) sh_0 (by decide) rfl (Nat.le_of_ble_eq_true rfl) (K)
theorem bL_arrives_46 {I : Nat → Nat → Int32} {L : Nat → Int64} {Q : Option Value → (Nat → Nat → Int32) → (Nat → Int64) → Prop} {v2 : Int32} {s0 : Int32}  (K1 : (s0 = (-1 : Int32)) → XS mL_arrives 52 [(0, .ref 0), (1, .ref 49), (2, .int v2)] [] I L Q) (K2 : (¬ s0 = (-1 : Int32)) → XS mL_arrives 50 [] [] I L Q) : XS mL_arrives 46 [(0, .ref 0), (1, .ref 49), (2, .int v2)] [.int s0] I L Q := by
  refine x_iconst (v := (-1 : Int32)) dL_arrives_46 (by decide) ?_
  exact x_icmp_eq 52 dL_arrives_47 (by decide) (fun h => K1 h) (fun h => x_sub [] rfl (K2 h))
theorem bL_arrives_50 {I : Nat → Nat → Int32} {L : Nat → Int64} {Q : Option Value → (Nat → Nat → Int32) → (Nat → Int64) → Prop}   (K : Q (some (.int (0 : Int32))) I L) : XS mL_arrives 50 [] [] I L Q := by
  refine x_iconst (v := (0 : Int32)) dL_arrives_50 (by decide) ?_
  exact xs_iret dL_arrives_51 rfl (x_nar _ (Or.inl rfl)) K
theorem bL_arrives_52 {I : Nat → Nat → Int32} {L : Nat → Int64} {Q : Option Value → (Nat → Nat → Int32) → (Nat → Int64) → Prop} {v2 : Int32}  (K : XS mX9_clear 0 [(0, .ref 0)] [] I L (fun r I' L' => XS mL_arrives 56 [(0, .ref 0), (1, .ref 49), (2, .int v2)] (r.toList ++ []) I' L' Q)) : XS mL_arrives 52 [(0, .ref 0), (1, .ref 49), (2, .int v2)] [] I L Q := by
  refine x_aload_n 0 dL_arrives_52 rfl rfl ?_
  exact xs_callV mX9_clear [] [] 0 9 0 _ rfl dL_arrives_53 ml_L_122 qX9_clear rfl ⟨Nat.le_of_ble_eq_true rfl, Nat.le_of_ble_eq_true rfl⟩ ⟨rfl, rfl⟩ (Nat.le_of_ble_eq_true rfl) sh_0 (by decide) rfl (Nat.le_of_ble_eq_true rfl) (K)
theorem bL_arrives_56 {I : Nat → Nat → Int32} {L : Nat → Int64} {Q : Option Value → (Nat → Nat → Int32) → (Nat → Int64) → Prop} {v2 : Int32} {s0 : Int32}  (K : XS mL_part 0 [(0, .int v2), (1, .int (I 3136 0))] [] I L (fun r I' L' => XS mL_arrives 64 [(0, .ref 0), (1, .ref 49), (2, .int v2)] (r.toList ++ []) I' L' Q)) : XS mL_arrives 56 [(0, .ref 0), (1, .ref 49), (2, .int v2)] [.int s0] I L Q := by
  refine x_pop dL_arrives_56 rfl ?_
  refine x_iload_n 2 dL_arrives_57 rfl rfl ?_
  refine x_aload_n 1 dL_arrives_58 rfl rfl ?_
  refine x_iconst (v := (0 : Int32)) dL_arrives_59 (by decide) ?_
  refine xs_iald 3136 (0) dL_arrives_60 sh_49 rfl (by decide) (x_vpin (by decide)) ?_
  exact xs_callS mL_part [.int v2, .int (I 3136 0)] [] 2 _ rfl dL_arrives_61 ml_L_15 qL_part rfl ⟨Nat.le_of_ble_eq_true rfl, Nat.le_of_ble_eq_true rfl⟩ ⟨rfl, rfl⟩ (Nat.le_of_ble_eq_true rfl) (Nat.le_of_ble_eq_true rfl) (K)
theorem bL_arrives_64 {I : Nat → Nat → Int32} {L : Nat → Int64} {Q : Option Value → (Nat → Nat → Int32) → (Nat → Int64) → Prop} {v2 : Int32} {s0 : Int32}  (K : XS mL_arrives 77 [(0, .ref 0), (1, .ref 49), (2, .int v2), (3, .int s0), (4, .int s0), (5, .int (1 : Int32)), (6, .int (0 : Int32)), (7, .int (0 : Int32))] [] I L Q) : XS mL_arrives 64 [(0, .ref 0), (1, .ref 49), (2, .int v2)] [.int s0] I L Q := by
  refine x_istore_n [(0, .ref 0), (1, .ref 49), (2, .int v2), (3, .int s0)] dL_arrives_64 rfl (Nat.le_of_ble_eq_true rfl) rfl ?_
  refine x_iload_n 3 dL_arrives_65 rfl rfl ?_
  refine x_istore [(0, .ref 0), (1, .ref 49), (2, .int v2), (3, .int s0), (4, .int s0)] dL_arrives_66 (Nat.le_of_ble_eq_true rfl) rfl ?_
  refine x_iconst (v := (1 : Int32)) dL_arrives_68 (by decide) ?_
  refine x_istore [(0, .ref 0), (1, .ref 49), (2, .int v2), (3, .int s0), (4, .int s0), (5, .int (1 : Int32))] dL_arrives_69 (Nat.le_of_ble_eq_true rfl) rfl ?_
  refine x_iconst (v := (0 : Int32)) dL_arrives_71 (by decide) ?_
  refine x_istore [(0, .ref 0), (1, .ref 49), (2, .int v2), (3, .int s0), (4, .int s0), (5, .int (1 : Int32)), (6, .int (0 : Int32))] dL_arrives_72 (Nat.le_of_ble_eq_true rfl) rfl ?_
  refine x_iconst (v := (0 : Int32)) dL_arrives_74 (by decide) ?_
  refine x_istore [(0, .ref 0), (1, .ref 49), (2, .int v2), (3, .int s0), (4, .int s0), (5, .int (1 : Int32)), (6, .int (0 : Int32)), (7, .int (0 : Int32))] dL_arrives_75 (Nat.le_of_ble_eq_true rfl) rfl ?_
  exact K
theorem bL_arrives_77 {I : Nat → Nat → Int32} {L : Nat → Int64} {Q : Option Value → (Nat → Nat → Int32) → (Nat → Int64) → Prop} {v2 : Int32} {v3 : Int32} {v4 : Int32} {v5 : Int32} {v6 : Int32} {v7 : Int32}  (K1 : ((3 : Int32) ≤ v7) → XS mL_arrives 167 [(0, .ref 0), (1, .ref 49), (3, .int v3), (4, .int v4), (5, .int v5), (6, .int v6)] [] I L Q) (K2 : (¬ (3 : Int32) ≤ v7) → XS mL_arrives 83 [(0, .ref 0), (1, .ref 49), (2, .int v2), (3, .int v3), (4, .int v4), (5, .int v5), (6, .int v6), (7, .int v7)] [] I L Q) : XS mL_arrives 77 [(0, .ref 0), (1, .ref 49), (2, .int v2), (3, .int v3), (4, .int v4), (5, .int v5), (6, .int v6), (7, .int v7)] [] I L Q := by
  refine x_iload 7 dL_arrives_77 rfl ?_
  refine x_iconst (v := (3 : Int32)) dL_arrives_79 (by decide) ?_
  exact x_icmp_ge 167 dL_arrives_80 (by decide) (fun h => x_sub [0, 1, 3, 4, 5, 6] rfl (K1 h)) (fun h => K2 h)
theorem bL_arrives_83 {I : Nat → Nat → Int32} {L : Nat → Int64} {Q : Option Value → (Nat → Nat → Int32) → (Nat → Int64) → Prop} {v2 : Int32} {v3 : Int32} {v4 : Int32} {v5 : Int32} {v6 : Int32} {v7 : Int32}  (K : XS mL_part 0 [(0, .int (v2 >>> ((((3 : Int32) * v7) + (3 : Int32)) &&& 31))), (1, .int (I 3136 0))] [] I L (fun r I' L' => XS mL_arrives 97 [(0, .ref 0), (1, .ref 49), (2, .int v2), (3, .int v3), (4, .int v4), (5, .int v5), (6, .int v6), (7, .int v7)] (r.toList ++ []) I' L' Q)) : XS mL_arrives 83 [(0, .ref 0), (1, .ref 49), (2, .int v2), (3, .int v3), (4, .int v4), (5, .int v5), (6, .int v6), (7, .int v7)] [] I L Q := by
  refine x_iload_n 2 dL_arrives_83 rfl rfl ?_
  refine x_iconst (v := (3 : Int32)) dL_arrives_84 (by decide) ?_
  refine x_iload 7 dL_arrives_85 rfl ?_
  refine x_imul dL_arrives_87 ?_
  refine x_iconst (v := (3 : Int32)) dL_arrives_88 (by decide) ?_
  refine x_iadd dL_arrives_89 ?_
  refine x_ishr dL_arrives_90 ?_
  refine x_aload_n 1 dL_arrives_91 rfl rfl ?_
  refine x_iconst (v := (0 : Int32)) dL_arrives_92 (by decide) ?_
  refine xs_iald 3136 (0) dL_arrives_93 sh_49 rfl (by decide) (x_vpin (by decide)) ?_
  exact xs_callS mL_part [.int (v2 >>> ((((3 : Int32) * v7) + (3 : Int32)) &&& 31)), .int (I 3136 0)] [] 2 _ rfl dL_arrives_94 ml_L_15 qL_part rfl ⟨Nat.le_of_ble_eq_true rfl, Nat.le_of_ble_eq_true rfl⟩ ⟨rfl, rfl⟩ (Nat.le_of_ble_eq_true rfl) (Nat.le_of_ble_eq_true rfl) (K)
theorem bL_arrives_97 {I : Nat → Nat → Int32} {L : Nat → Int64} {Q : Option Value → (Nat → Nat → Int32) → (Nat → Int64) → Prop} {v2 : Int32} {v3 : Int32} {v4 : Int32} {v5 : Int32} {v6 : Int32} {v7 : Int32} {s0 : Int32}  (K : XS mX9_far 0 [(0, .ref 0), (1, .int v4), (2, .int s0), (3, .int ((v2 >>> (((12 : Int32) + v7) &&& 31)) &&& (1 : Int32)))] [] I L (fun r I' L' => XS mL_arrives 122 [(0, .ref 0), (1, .ref 49), (2, .int v2), (3, .int v3), (4, .int v4), (6, .int v6), (7, .int v7), (8, .int s0), (9, .int ((v2 >>> (((12 : Int32) + v7) &&& 31)) &&& (1 : Int32)))] (r.toList ++ [.int v5]) I' L' Q)) : XS mL_arrives 97 [(0, .ref 0), (1, .ref 49), (2, .int v2), (3, .int v3), (4, .int v4), (5, .int v5), (6, .int v6), (7, .int v7)] [.int s0] I L Q := by
  refine x_istore [(0, .ref 0), (1, .ref 49), (2, .int v2), (3, .int v3), (4, .int v4), (5, .int v5), (6, .int v6), (7, .int v7), (8, .int s0)] dL_arrives_97 (Nat.le_of_ble_eq_true rfl) rfl ?_
  refine x_iload_n 2 dL_arrives_99 rfl rfl ?_
  refine x_bipush (v := (12 : Int32)) dL_arrives_100 (by decide) ?_
  refine x_iload 7 dL_arrives_102 rfl ?_
  refine x_iadd dL_arrives_104 ?_
  refine x_ishr dL_arrives_105 ?_
  refine x_iconst (v := (1 : Int32)) dL_arrives_106 (by decide) ?_
  refine x_iand dL_arrives_107 ?_
  refine x_istore [(0, .ref 0), (1, .ref 49), (2, .int v2), (3, .int v3), (4, .int v4), (5, .int v5), (6, .int v6), (7, .int v7), (8, .int s0), (9, .int ((v2 >>> (((12 : Int32) + v7) &&& 31)) &&& (1 : Int32)))] dL_arrives_108 (Nat.le_of_ble_eq_true rfl) rfl ?_
  refine x_iload 5 dL_arrives_110 rfl ?_
  refine x_aload_n 0 dL_arrives_112 rfl rfl ?_
  refine x_iload 4 dL_arrives_113 rfl ?_
  refine x_iload 8 dL_arrives_115 rfl ?_
  refine x_iload 9 dL_arrives_117 rfl ?_
  refine x_sub [0, 1, 2, 3, 4, 6, 7, 8, 9] rfl ?_
  exact xs_callV mX9_far [.int v4, .int s0, .int ((v2 >>> (((12 : Int32) + v7) &&& 31)) &&& (1 : Int32))] [.int v5] 0 9 3 _ rfl dL_arrives_119 ml_L_88 qX9_far rfl ⟨Nat.le_of_ble_eq_true rfl, Nat.le_of_ble_eq_true rfl⟩ ⟨rfl, rfl⟩ (Nat.le_of_ble_eq_true rfl) sh_0 (by decide) rfl (Nat.le_of_ble_eq_true rfl) (K)
theorem bL_arrives_122 {I : Nat → Nat → Int32} {L : Nat → Int64} {Q : Option Value → (Nat → Nat → Int32) → (Nat → Int64) → Prop} {v2 : Int32} {v3 : Int32} {v4 : Int32} {v6 : Int32} {v7 : Int32} {v8 : Int32} {v9 : Int32} {s0 : Int32} {s1 : Int32}  (K1 : (s1 < 0) → XS mL_arrives 129 [(0, .ref 0), (1, .ref 49), (2, .int v2), (3, .int v3), (4, .int v4), (6, .int v6), (7, .int v7), (8, .int v8), (9, .int v9)] [.int s0] I L Q) (K2 : (¬ s1 < 0) → XS mL_arrives 125 [(0, .ref 0), (1, .ref 49), (2, .int v2), (3, .int v3), (4, .int v4), (6, .int v6), (7, .int v7), (8, .int v8), (9, .int v9)] [.int s0] I L Q) : XS mL_arrives 122 [(0, .ref 0), (1, .ref 49), (2, .int v2), (3, .int v3), (4, .int v4), (6, .int v6), (7, .int v7), (8, .int v8), (9, .int v9)] [.int s1, .int s0] I L Q := by
  exact x_if_lt 129 dL_arrives_122 (by decide) (fun h => K1 h) (fun h => K2 h)
theorem bL_arrives_125 {I : Nat → Nat → Int32} {L : Nat → Int64} {Q : Option Value → (Nat → Nat → Int32) → (Nat → Int64) → Prop} {v2 : Int32} {v3 : Int32} {v4 : Int32} {v6 : Int32} {v7 : Int32} {v8 : Int32} {v9 : Int32} {s0 : Int32}  (K : XS mL_arrives 130 [(0, .ref 0), (1, .ref 49), (2, .int v2), (3, .int v3), (4, .int v4), (6, .int v6), (7, .int v7), (8, .int v8), (9, .int v9)] [.int (1 : Int32), .int s0] I L Q) : XS mL_arrives 125 [(0, .ref 0), (1, .ref 49), (2, .int v2), (3, .int v3), (4, .int v4), (6, .int v6), (7, .int v7), (8, .int v8), (9, .int v9)] [.int s0] I L Q := by
  refine x_iconst (v := (1 : Int32)) dL_arrives_125 (by decide) ?_
  exact x_goto 130 dL_arrives_126 (by decide) (K)
theorem bL_arrives_129 {I : Nat → Nat → Int32} {L : Nat → Int64} {Q : Option Value → (Nat → Nat → Int32) → (Nat → Int64) → Prop} {v2 : Int32} {v3 : Int32} {v4 : Int32} {v6 : Int32} {v7 : Int32} {v8 : Int32} {v9 : Int32} {s0 : Int32}  (K : XS mL_arrives 130 [(0, .ref 0), (1, .ref 49), (2, .int v2), (3, .int v3), (4, .int v4), (6, .int v6), (7, .int v7), (8, .int v8), (9, .int v9)] [.int (0 : Int32), .int s0] I L Q) : XS mL_arrives 129 [(0, .ref 0), (1, .ref 49), (2, .int v2), (3, .int v3), (4, .int v4), (6, .int v6), (7, .int v7), (8, .int v8), (9, .int v9)] [.int s0] I L Q := by
  refine x_iconst (v := (0 : Int32)) dL_arrives_129 (by decide) ?_
  exact K
theorem bL_arrives_130 {I : Nat → Nat → Int32} {L : Nat → Int64} {Q : Option Value → (Nat → Nat → Int32) → (Nat → Int64) → Prop} {v2 : Int32} {v3 : Int32} {v4 : Int32} {v6 : Int32} {v7 : Int32} {v8 : Int32} {v9 : Int32} {s0 : Int32} {s1 : Int32}  (K : XS mX9_far 0 [(0, .ref 0), (1, .int v4), (2, .int v8), (3, .int v9)] [] I L (fun r I' L' => XS mL_arrives 145 [(0, .ref 0), (1, .ref 49), (2, .int v2), (3, .int v3), (5, .int (s0 &&& s1)), (7, .int v7), (8, .int v8), (9, .int v9)] (r.toList ++ [.int v6]) I' L' Q)) : XS mL_arrives 130 [(0, .ref 0), (1, .ref 49), (2, .int v2), (3, .int v3), (4, .int v4), (6, .int v6), (7, .int v7), (8, .int v8), (9, .int v9)] [.int s1, .int s0] I L Q := by
  refine x_iand dL_arrives_130 ?_
  refine x_istore [(0, .ref 0), (1, .ref 49), (2, .int v2), (3, .int v3), (4, .int v4), (5, .int (s0 &&& s1)), (6, .int v6), (7, .int v7), (8, .int v8), (9, .int v9)] dL_arrives_131 (Nat.le_of_ble_eq_true rfl) rfl ?_
  refine x_iload 6 dL_arrives_133 rfl ?_
  refine x_aload_n 0 dL_arrives_135 rfl rfl ?_
  refine x_iload 4 dL_arrives_136 rfl ?_
  refine x_iload 8 dL_arrives_138 rfl ?_
  refine x_iload 9 dL_arrives_140 rfl ?_
  refine x_sub [0, 1, 2, 3, 5, 7, 8, 9] rfl ?_
  exact xs_callV mX9_far [.int v4, .int v8, .int v9] [.int v6] 0 9 3 _ rfl dL_arrives_142 ml_L_88 qX9_far rfl ⟨Nat.le_of_ble_eq_true rfl, Nat.le_of_ble_eq_true rfl⟩ ⟨rfl, rfl⟩ (Nat.le_of_ble_eq_true rfl) sh_0 (by decide) rfl (Nat.le_of_ble_eq_true rfl) (K)
theorem bL_arrives_145 {I : Nat → Nat → Int32} {L : Nat → Int64} {Q : Option Value → (Nat → Nat → Int32) → (Nat → Int64) → Prop} {v2 : Int32} {v3 : Int32} {v5 : Int32} {v7 : Int32} {v8 : Int32} {v9 : Int32} {s0 : Int32} {s1 : Int32}  (K : XS mX9_push 0 [(0, .ref 0), (1, .int v9), (2, .int v8)] [] I L (fun r I' L' => XS mL_arrives 156 [(0, .ref 0), (1, .ref 49), (2, .int v2), (3, .int v3), (5, .int v5), (6, .int (s0 + s1)), (7, .int v7), (8, .int v8)] (r.toList ++ []) I' L' Q)) : XS mL_arrives 145 [(0, .ref 0), (1, .ref 49), (2, .int v2), (3, .int v3), (5, .int v5), (7, .int v7), (8, .int v8), (9, .int v9)] [.int s1, .int s0] I L Q := by
  refine x_iadd dL_arrives_145 ?_
  refine x_istore [(0, .ref 0), (1, .ref 49), (2, .int v2), (3, .int v3), (5, .int v5), (6, .int (s0 + s1)), (7, .int v7), (8, .int v8), (9, .int v9)] dL_arrives_146 (Nat.le_of_ble_eq_true rfl) rfl ?_
  refine x_aload_n 0 dL_arrives_148 rfl rfl ?_
  refine x_iload 8 dL_arrives_149 rfl ?_
  refine x_iload 7 dL_arrives_151 rfl ?_
  refine x_sub [0, 1, 2, 3, 4, 5, 6, 7] rfl ?_
  exact xs_callV mX9_push [.int v9, .int v8] [] 0 9 2 _ rfl dL_arrives_153 ml_L_103 qX9_push rfl ⟨Nat.le_of_ble_eq_true rfl, Nat.le_of_ble_eq_true rfl⟩ ⟨rfl, rfl⟩ (Nat.le_of_ble_eq_true rfl) sh_0 (by decide) rfl (Nat.le_of_ble_eq_true rfl) (K)
theorem bL_arrives_156 {I : Nat → Nat → Int32} {L : Nat → Int64} {Q : Option Value → (Nat → Nat → Int32) → (Nat → Int64) → Prop} {v2 : Int32} {v3 : Int32} {v5 : Int32} {v6 : Int32} {v7 : Int32} {v8 : Int32} {s0 : Int32}  (K : XS mL_arrives 77 [(0, .ref 0), (1, .ref 49), (2, .int v2), (3, .int v3), (4, .int v8), (5, .int v5), (6, .int v6), (7, .int (v7 + (1 : Int32)))] [] I L Q) : XS mL_arrives 156 [(0, .ref 0), (1, .ref 49), (2, .int v2), (3, .int v3), (5, .int v5), (6, .int v6), (7, .int v7), (8, .int v8)] [.int s0] I L Q := by
  refine x_pop dL_arrives_156 rfl ?_
  refine x_iload 7 dL_arrives_157 rfl ?_
  refine x_istore [(0, .ref 0), (1, .ref 49), (2, .int v2), (3, .int v3), (4, .int v8), (5, .int v5), (6, .int v6), (7, .int v7), (8, .int v8)] dL_arrives_159 (Nat.le_of_ble_eq_true rfl) rfl ?_
  refine x_iinc 7 (v7 + (1 : Int32)) [(0, .ref 0), (1, .ref 49), (2, .int v2), (3, .int v3), (4, .int v8), (5, .int v5), (6, .int v6), (7, .int (v7 + (1 : Int32))), (8, .int v8)] dL_arrives_161 rfl rfl (Nat.le_of_ble_eq_true rfl) rfl ?_
  exact x_goto 77 dL_arrives_164 (by decide) (x_sub [0, 1, 2, 3, 4, 5, 6, 7] rfl (K))
theorem bL_arrives_167 {I : Nat → Nat → Int32} {L : Nat → Int64} {Q : Option Value → (Nat → Nat → Int32) → (Nat → Int64) → Prop} {v3 : Int32} {v4 : Int32} {v5 : Int32} {v6 : Int32}  (K : XS mX9_send 0 [(0, .ref 0), (1, .int v3)] [] I L (fun r I' L' => XS mL_arrives 172 [(0, .ref 0), (1, .ref 49), (4, .int v4), (5, .int v5), (6, .int v6)] (r.toList ++ []) I' L' Q)) : XS mL_arrives 167 [(0, .ref 0), (1, .ref 49), (3, .int v3), (4, .int v4), (5, .int v5), (6, .int v6)] [] I L Q := by
  refine x_aload_n 0 dL_arrives_167 rfl rfl ?_
  refine x_iload_n 2 dL_arrives_168 rfl rfl ?_
  refine x_sub [0, 1, 3, 4, 5] rfl ?_
  exact xs_callV mX9_send [.int v3] [] 0 9 1 _ rfl dL_arrives_169 ml_L_116 qX9_send rfl ⟨Nat.le_of_ble_eq_true rfl, Nat.le_of_ble_eq_true rfl⟩ ⟨rfl, rfl⟩ (Nat.le_of_ble_eq_true rfl) sh_0 (by decide) rfl (Nat.le_of_ble_eq_true rfl) (K)
theorem bL_arrives_172 {I : Nat → Nat → Int32} {L : Nat → Int64} {Q : Option Value → (Nat → Nat → Int32) → (Nat → Int64) → Prop} {v4 : Int32} {v5 : Int32} {v6 : Int32} {s0 : Int32}  (K : XS mL_arrives 177 [(0, .ref 0), (1, .ref 49), (4, .int v4), (5, .int v5), (6, .int v6), (7, .int s0), (8, .int (0 : Int32))] [] I L Q) : XS mL_arrives 172 [(0, .ref 0), (1, .ref 49), (4, .int v4), (5, .int v5), (6, .int v6)] [.int s0] I L Q := by
  refine x_istore [(0, .ref 0), (1, .ref 49), (4, .int v4), (5, .int v5), (6, .int v6), (7, .int s0)] dL_arrives_172 (Nat.le_of_ble_eq_true rfl) rfl ?_
  refine x_iconst (v := (0 : Int32)) dL_arrives_174 (by decide) ?_
  refine x_istore [(0, .ref 0), (1, .ref 49), (4, .int v4), (5, .int v5), (6, .int v6), (7, .int s0), (8, .int (0 : Int32))] dL_arrives_175 (Nat.le_of_ble_eq_true rfl) rfl ?_
  exact K
theorem bL_arrives_177 {I : Nat → Nat → Int32} {L : Nat → Int64} {Q : Option Value → (Nat → Nat → Int32) → (Nat → Int64) → Prop} {v4 : Int32} {v5 : Int32} {v6 : Int32} {v7 : Int32} {v8 : Int32}  (K1 : ((I 3136 0) ≤ v8) → XS mL_arrives 212 [(0, .ref 0), (4, .int v4), (5, .int v5), (6, .int v6), (7, .int v7)] [] I L Q) (K2 : (¬ (I 3136 0) ≤ v8) → XS mL_arrives 185 [(0, .ref 0), (1, .ref 49), (4, .int v4), (5, .int v5), (6, .int v6), (7, .int v7), (8, .int v8)] [] I L Q) : XS mL_arrives 177 [(0, .ref 0), (1, .ref 49), (4, .int v4), (5, .int v5), (6, .int v6), (7, .int v7), (8, .int v8)] [] I L Q := by
  refine x_iload 6 dL_arrives_177 rfl ?_
  refine x_aload_n 1 dL_arrives_179 rfl rfl ?_
  refine x_iconst (v := (0 : Int32)) dL_arrives_180 (by decide) ?_
  refine xs_iald 3136 (0) dL_arrives_181 sh_49 rfl (by decide) (x_vpin (by decide)) ?_
  exact x_icmp_ge 212 dL_arrives_182 (by decide) (fun h => x_sub [0, 2, 3, 4, 5] rfl (K1 h)) (fun h => K2 h)
theorem bL_arrives_185 {I : Nat → Nat → Int32} {L : Nat → Int64} {Q : Option Value → (Nat → Nat → Int32) → (Nat → Int64) → Prop} {v4 : Int32} {v5 : Int32} {v6 : Int32} {v7 : Int32} {v8 : Int32}  (K : XS mX9_rings 0 [(0, .ref 0), (1, .int v8)] [] I L (fun r I' L' => XS mL_arrives 191 [(0, .ref 0), (1, .ref 49), (4, .int v4), (5, .int v5), (6, .int v6), (7, .int v7), (8, .int v8)] (r.toList ++ []) I' L' Q)) : XS mL_arrives 185 [(0, .ref 0), (1, .ref 49), (4, .int v4), (5, .int v5), (6, .int v6), (7, .int v7), (8, .int v8)] [] I L Q := by
  refine x_aload_n 0 dL_arrives_185 rfl rfl ?_
  refine x_iload 6 dL_arrives_186 rfl ?_
  exact xs_callV mX9_rings [.int v8] [] 0 9 1 _ rfl dL_arrives_188 ml_L_94 qX9_rings rfl ⟨Nat.le_of_ble_eq_true rfl, Nat.le_of_ble_eq_true rfl⟩ ⟨rfl, rfl⟩ (Nat.le_of_ble_eq_true rfl) sh_0 (by decide) rfl (Nat.le_of_ble_eq_true rfl) (K)
theorem bL_arrives_191 {I : Nat → Nat → Int32} {L : Nat → Int64} {Q : Option Value → (Nat → Nat → Int32) → (Nat → Int64) → Prop} {v4 : Int32} {v5 : Int32} {v6 : Int32} {v7 : Int32} {v8 : Int32} {s0 : Int32}  (K1 : (¬ s0 = 0) → XS mL_arrives 204 [] [] I L Q) (K2 : (s0 = 0) → XS mL_arrives 194 [(0, .ref 0), (1, .ref 49), (4, .int v4), (5, .int v5), (6, .int v6), (7, .int v7), (8, .int v8)] [] I L Q) : XS mL_arrives 191 [(0, .ref 0), (1, .ref 49), (4, .int v4), (5, .int v5), (6, .int v6), (7, .int v7), (8, .int v8)] [.int s0] I L Q := by
  exact x_if_ne 204 dL_arrives_191 (by decide) (fun h => x_sub [] rfl (K1 h)) (fun h => K2 h)
theorem bL_arrives_194 {I : Nat → Nat → Int32} {L : Nat → Int64} {Q : Option Value → (Nat → Nat → Int32) → (Nat → Int64) → Prop} {v4 : Int32} {v5 : Int32} {v6 : Int32} {v7 : Int32} {v8 : Int32}  (K : XS mX9_safe 0 [(0, .ref 0), (1, .int v8)] [] I L (fun r I' L' => XS mL_arrives 200 [(0, .ref 0), (1, .ref 49), (4, .int v4), (5, .int v5), (6, .int v6), (7, .int v7), (8, .int v8)] (r.toList ++ []) I' L' Q)) : XS mL_arrives 194 [(0, .ref 0), (1, .ref 49), (4, .int v4), (5, .int v5), (6, .int v6), (7, .int v7), (8, .int v8)] [] I L Q := by
  refine x_aload_n 0 dL_arrives_194 rfl rfl ?_
  refine x_iload 6 dL_arrives_195 rfl ?_
  exact xs_callV mX9_safe [.int v8] [] 0 9 1 _ rfl dL_arrives_197 ml_L_97 qX9_safe rfl ⟨Nat.le_of_ble_eq_true rfl, Nat.le_of_ble_eq_true rfl⟩ ⟨rfl, rfl⟩ (Nat.le_of_ble_eq_true rfl) sh_0 (by decide) rfl (Nat.le_of_ble_eq_true rfl) (K)
theorem bL_arrives_200 {I : Nat → Nat → Int32} {L : Nat → Int64} {Q : Option Value → (Nat → Nat → Int32) → (Nat → Int64) → Prop} {v4 : Int32} {v5 : Int32} {v6 : Int32} {v7 : Int32} {v8 : Int32} {s0 : Int32}  (K1 : (s0 = (1 : Int32)) → XS mL_arrives 206 [(0, .ref 0), (1, .ref 49), (4, .int v4), (5, .int v5), (6, .int v6), (7, .int v7), (8, .int v8)] [] I L Q) (K2 : (¬ s0 = (1 : Int32)) → XS mL_arrives 204 [] [] I L Q) : XS mL_arrives 200 [(0, .ref 0), (1, .ref 49), (4, .int v4), (5, .int v5), (6, .int v6), (7, .int v7), (8, .int v8)] [.int s0] I L Q := by
  refine x_iconst (v := (1 : Int32)) dL_arrives_200 (by decide) ?_
  exact x_icmp_eq 206 dL_arrives_201 (by decide) (fun h => K1 h) (fun h => x_sub [] rfl (K2 h))
theorem bL_arrives_204 {I : Nat → Nat → Int32} {L : Nat → Int64} {Q : Option Value → (Nat → Nat → Int32) → (Nat → Int64) → Prop}   (K : Q (some (.int (0 : Int32))) I L) : XS mL_arrives 204 [] [] I L Q := by
  refine x_iconst (v := (0 : Int32)) dL_arrives_204 (by decide) ?_
  exact xs_iret dL_arrives_205 rfl (x_nar _ (Or.inl rfl)) K
theorem bL_arrives_206 {I : Nat → Nat → Int32} {L : Nat → Int64} {Q : Option Value → (Nat → Nat → Int32) → (Nat → Int64) → Prop} {v4 : Int32} {v5 : Int32} {v6 : Int32} {v7 : Int32} {v8 : Int32}  (K : XS mL_arrives 177 [(0, .ref 0), (1, .ref 49), (4, .int v4), (5, .int v5), (6, .int v6), (7, .int v7), (8, .int (v8 + (1 : Int32)))] [] I L Q) : XS mL_arrives 206 [(0, .ref 0), (1, .ref 49), (4, .int v4), (5, .int v5), (6, .int v6), (7, .int v7), (8, .int v8)] [] I L Q := by
  refine x_iinc 6 (v8 + (1 : Int32)) [(0, .ref 0), (1, .ref 49), (4, .int v4), (5, .int v5), (6, .int v6), (7, .int v7), (8, .int (v8 + (1 : Int32)))] dL_arrives_206 rfl rfl (Nat.le_of_ble_eq_true rfl) rfl ?_
  exact x_goto 177 dL_arrives_209 (by decide) (K)
theorem bL_arrives_212 {I : Nat → Nat → Int32} {L : Nat → Int64} {Q : Option Value → (Nat → Nat → Int32) → (Nat → Int64) → Prop} {v4 : Int32} {v5 : Int32} {v6 : Int32} {v7 : Int32}  (K1 : (v5 = 0) → XS mL_arrives 249 [(7, .int v7)] [] I L Q) (K2 : (¬ v5 = 0) → XS mL_arrives 217 [(0, .ref 0), (4, .int v4), (6, .int v6), (7, .int v7)] [] I L Q) : XS mL_arrives 212 [(0, .ref 0), (4, .int v4), (5, .int v5), (6, .int v6), (7, .int v7)] [] I L Q := by
  refine x_iload 2 dL_arrives_212 rfl ?_
  exact x_if_eq 249 dL_arrives_214 (by decide) (fun h => x_sub [4] rfl (K1 h)) (fun h => x_sub [0, 1, 3, 4] rfl (K2 h))
theorem bL_arrives_217 {I : Nat → Nat → Int32} {L : Nat → Int64} {Q : Option Value → (Nat → Nat → Int32) → (Nat → Int64) → Prop} {v4 : Int32} {v6 : Int32} {v7 : Int32}  (K1 : (¬ v7 = v4) → XS mL_arrives 234 [(7, .int v7)] [] I L Q) (K2 : (v7 = v4) → XS mL_arrives 224 [(0, .ref 0), (6, .int v6), (7, .int v7)] [] I L Q) : XS mL_arrives 217 [(0, .ref 0), (4, .int v4), (6, .int v6), (7, .int v7)] [] I L Q := by
  refine x_iload 3 dL_arrives_217 rfl ?_
  refine x_iload 1 dL_arrives_219 rfl ?_
  exact x_icmp_ne 234 dL_arrives_221 (by decide) (fun h => x_sub [3] rfl (K1 h)) (fun h => x_sub [0, 2, 3] rfl (K2 h))
theorem bL_arrives_224 {I : Nat → Nat → Int32} {L : Nat → Int64} {Q : Option Value → (Nat → Nat → Int32) → (Nat → Int64) → Prop} {v6 : Int32} {v7 : Int32}  (K : XS mX9_way 0 [(0, .ref 0), (1, .int (-1 : Int32))] [] I L (fun r I' L' => XS mL_arrives 229 [(6, .int v6), (7, .int v7)] (r.toList ++ []) I' L' Q)) : XS mL_arrives 224 [(0, .ref 0), (6, .int v6), (7, .int v7)] [] I L Q := by
  refine x_aload_n 0 dL_arrives_224 rfl rfl ?_
  refine x_iconst (v := (-1 : Int32)) dL_arrives_225 (by decide) ?_
  refine x_sub [1, 2] rfl ?_
  exact xs_callV mX9_way [.int (-1 : Int32)] [] 0 9 1 _ rfl dL_arrives_226 ml_L_119 qX9_way rfl ⟨Nat.le_of_ble_eq_true rfl, Nat.le_of_ble_eq_true rfl⟩ ⟨rfl, rfl⟩ (Nat.le_of_ble_eq_true rfl) sh_0 (by decide) rfl (Nat.le_of_ble_eq_true rfl) (K)
theorem bL_arrives_229 {I : Nat → Nat → Int32} {L : Nat → Int64} {Q : Option Value → (Nat → Nat → Int32) → (Nat → Int64) → Prop} {v6 : Int32} {v7 : Int32} {s0 : Int32}  (K1 : (s0 ≤ v6) → XS mL_arrives 241 [] [] I L Q) (K2 : (¬ s0 ≤ v6) → XS mL_arrives 234 [(7, .int v7)] [] I L Q) : XS mL_arrives 229 [(6, .int v6), (7, .int v7)] [.int s0] I L Q := by
  refine x_iload 0 dL_arrives_229 rfl ?_
  exact x_icmp_le 241 dL_arrives_231 (by decide) (fun h => x_sub [] rfl (K1 h)) (fun h => x_sub [1] rfl (K2 h))
theorem bL_arrives_234 {I : Nat → Nat → Int32} {L : Nat → Int64} {Q : Option Value → (Nat → Nat → Int32) → (Nat → Int64) → Prop} {v7 : Int32}  (K1 : (¬ v7 = (-14 : Int32)) → XS mL_arrives 245 [] [] I L Q) (K2 : (v7 = (-14 : Int32)) → XS mL_arrives 241 [] [] I L Q) : XS mL_arrives 234 [(7, .int v7)] [] I L Q := by
  refine x_iload 0 dL_arrives_234 rfl ?_
  refine x_bipush (v := (-14 : Int32)) dL_arrives_236 (by decide) ?_
  exact x_icmp_ne 245 dL_arrives_238 (by decide) (fun h => x_sub [] rfl (K1 h)) (fun h => x_sub [] rfl (K2 h))
theorem bL_arrives_241 {I : Nat → Nat → Int32} {L : Nat → Int64} {Q : Option Value → (Nat → Nat → Int32) → (Nat → Int64) → Prop}   (K : XS mL_arrives 261 [] [.int (1 : Int32)] I L Q) : XS mL_arrives 241 [] [] I L Q := by
  refine x_iconst (v := (1 : Int32)) dL_arrives_241 (by decide) ?_
  exact x_goto 261 dL_arrives_242 (by decide) (K)
theorem bL_arrives_245 {I : Nat → Nat → Int32} {L : Nat → Int64} {Q : Option Value → (Nat → Nat → Int32) → (Nat → Int64) → Prop}   (K : XS mL_arrives 261 [] [.int (0 : Int32)] I L Q) : XS mL_arrives 245 [] [] I L Q := by
  refine x_iconst (v := (0 : Int32)) dL_arrives_245 (by decide) ?_
  exact x_goto 261 dL_arrives_246 (by decide) (K)
theorem bL_arrives_249 {I : Nat → Nat → Int32} {L : Nat → Int64} {Q : Option Value → (Nat → Nat → Int32) → (Nat → Int64) → Prop} {v7 : Int32}  (K1 : (¬ v7 = (-11 : Int32)) → XS mL_arrives 260 [] [] I L Q) (K2 : (v7 = (-11 : Int32)) → XS mL_arrives 256 [] [] I L Q) : XS mL_arrives 249 [(7, .int v7)] [] I L Q := by
  refine x_iload 0 dL_arrives_249 rfl ?_
  refine x_bipush (v := (-11 : Int32)) dL_arrives_251 (by decide) ?_
  exact x_icmp_ne 260 dL_arrives_253 (by decide) (fun h => x_sub [] rfl (K1 h)) (fun h => x_sub [] rfl (K2 h))
theorem bL_arrives_256 {I : Nat → Nat → Int32} {L : Nat → Int64} {Q : Option Value → (Nat → Nat → Int32) → (Nat → Int64) → Prop}   (K : XS mL_arrives 261 [] [.int (1 : Int32)] I L Q) : XS mL_arrives 256 [] [] I L Q := by
  refine x_iconst (v := (1 : Int32)) dL_arrives_256 (by decide) ?_
  exact x_goto 261 dL_arrives_257 (by decide) (K)
theorem bL_arrives_260 {I : Nat → Nat → Int32} {L : Nat → Int64} {Q : Option Value → (Nat → Nat → Int32) → (Nat → Int64) → Prop}   (K : XS mL_arrives 261 [] [.int (0 : Int32)] I L Q) : XS mL_arrives 260 [] [] I L Q := by
  refine x_iconst (v := (0 : Int32)) dL_arrives_260 (by decide) ?_
  exact K
theorem bL_arrives_261 {I : Nat → Nat → Int32} {L : Nat → Int64} {Q : Option Value → (Nat → Nat → Int32) → (Nat → Int64) → Prop} {s0 : Int32} (hz1 : s0 = 0 ∨ s0 = 1) (K : Q (some (.int s0)) I L) : XS mL_arrives 261 [] [.int s0] I L Q := by
  exact xs_iret dL_arrives_261 rfl (x_nar _ hz1) K
theorem bL_law_13 {I : Nat → Nat → Int32} {L : Nat → Int64} {Q : Option Value → (Nat → Nat → Int32) → (Nat → Int64) → Prop} {Ln : Nat} {xs : Nat → Int32}   (K : XS mX9_undo 0 [(0, .ref 0)] [] I L (fun r I' L' => XT (50, 1188) Ln xs mL_law 17 [(0, .ref 1000020), (1, .ref 0), (2, .ref 49)] (r.toList ++ []) I' L' Q)) : XT (50, 1188) Ln xs mL_law 13 [(0, .ref 1000020), (1, .ref 0), (2, .ref 49)] [] I L Q := by
  refine x_aload_n 1 dL_law_13 rfl rfl ?_
  exact xt_callV mX9_undo [] [] 0 9 0 _ rfl dL_law_14 ml_L_126 qX9_undo rfl ⟨Nat.le_of_ble_eq_true rfl, Nat.le_of_ble_eq_true rfl⟩ ⟨Nat.le_of_ble_eq_true rfl, Nat.le_of_ble_eq_true rfl⟩ ⟨rfl, rfl⟩ (Nat.le_of_ble_eq_true rfl) sh_0 (by decide) rfl (Nat.le_of_ble_eq_true rfl) (K)
theorem bL_law_17 {I : Nat → Nat → Int32} {L : Nat → Int64} {Q : Option Value → (Nat → Nat → Int32) → (Nat → Int64) → Prop} {Ln : Nat} {xs : Nat → Int32} {s0 : Int32}  (K1 : (¬ s0 = (-4 : Int32)) → XT (50, 1188) Ln xs mL_law 62 [] [] I L Q) (K2 : (s0 = (-4 : Int32)) → XT (50, 1188) Ln xs mL_law 22 [(0, .ref 1000020), (1, .ref 0), (2, .ref 49)] [] I L Q) : XT (50, 1188) Ln xs mL_law 17 [(0, .ref 1000020), (1, .ref 0), (2, .ref 49)] [.int s0] I L Q := by
  refine x_bipush (v := (-4 : Int32)) dL_law_17 (by decide) ?_
  exact x_icmp_ne 62 dL_law_19 (by decide) (fun h => x_sub [] rfl (K1 h)) (fun h => K2 h)
theorem bL_law_22 {I : Nat → Nat → Int32} {L : Nat → Int64} {Q : Option Value → (Nat → Nat → Int32) → (Nat → Int64) → Prop} {Ln : Nat} {xs : Nat → Int32}   (K : XS mX9_way 0 [(0, .ref 0), (1, .int (0 : Int32))] [] I L (fun r I' L' => XT (50, 1188) Ln xs mL_law 27 [(0, .ref 1000020), (1, .ref 0), (2, .ref 49)] (r.toList ++ []) I' L' Q)) : XT (50, 1188) Ln xs mL_law 22 [(0, .ref 1000020), (1, .ref 0), (2, .ref 49)] [] I L Q := by
  refine x_aload_n 1 dL_law_22 rfl rfl ?_
  refine x_iconst (v := (0 : Int32)) dL_law_23 (by decide) ?_
  exact xt_callV mX9_way [.int (0 : Int32)] [] 0 9 1 _ rfl dL_law_24 ml_L_119 qX9_way rfl ⟨Nat.le_of_ble_eq_true rfl, Nat.le_of_ble_eq_true rfl⟩ ⟨Nat.le_of_ble_eq_true rfl, Nat.le_of_ble_eq_true rfl⟩ ⟨rfl, rfl⟩ (Nat.le_of_ble_eq_true rfl) sh_0 (by decide) rfl (Nat.le_of_ble_eq_true rfl) (K)
theorem bL_law_27 {I : Nat → Nat → Int32} {L : Nat → Int64} {Q : Option Value → (Nat → Nat → Int32) → (Nat → Int64) → Prop} {Ln : Nat} {xs : Nat → Int32} {s0 : Int32}  (K1 : (¬ s0 = (-1 : Int32)) → XT (50, 1188) Ln xs mL_law 62 [] [] I L Q) (K2 : (s0 = (-1 : Int32)) → XT (50, 1188) Ln xs mL_law 31 [(0, .ref 1000020), (1, .ref 0), (2, .ref 49)] [] I L Q) : XT (50, 1188) Ln xs mL_law 27 [(0, .ref 1000020), (1, .ref 0), (2, .ref 49)] [.int s0] I L Q := by
  refine x_iconst (v := (-1 : Int32)) dL_law_27 (by decide) ?_
  exact x_icmp_ne 62 dL_law_28 (by decide) (fun h => x_sub [] rfl (K1 h)) (fun h => K2 h)
theorem bL_law_31 {I : Nat → Nat → Int32} {L : Nat → Int64} {Q : Option Value → (Nat → Nat → Int32) → (Nat → Int64) → Prop} {Ln : Nat} {xs : Nat → Int32}   (K : XS mL_faults 0 [(0, .ref 0)] [] I L (fun r I' L' => XT (50, 1188) Ln xs mL_law 35 [(0, .ref 1000020), (1, .ref 0), (2, .ref 49)] (r.toList ++ []) I' L' Q)) : XT (50, 1188) Ln xs mL_law 31 [(0, .ref 1000020), (1, .ref 0), (2, .ref 49)] [] I L Q := by
  refine x_aload_n 1 dL_law_31 rfl rfl ?_
  exact xt_callS mL_faults [.ref 0] [] 1 _ rfl dL_law_32 ml_L_129 qL_faults rfl ⟨Nat.le_of_ble_eq_true rfl, Nat.le_of_ble_eq_true rfl⟩ ⟨Nat.le_of_ble_eq_true rfl, Nat.le_of_ble_eq_true rfl⟩ ⟨rfl, rfl⟩ (Nat.le_of_ble_eq_true rfl) (Nat.le_of_ble_eq_true rfl) (K)
theorem bL_law_35 {I : Nat → Nat → Int32} {L : Nat → Int64} {Q : Option Value → (Nat → Nat → Int32) → (Nat → Int64) → Prop} {Ln : Nat} {xs : Nat → Int32} {s0 : Int32}  (K1 : (s0 = 0) → XT (50, 1188) Ln xs mL_law 62 [] [] I L Q) (K2 : (¬ s0 = 0) → XT (50, 1188) Ln xs mL_law 38 [(0, .ref 1000020), (1, .ref 0), (2, .ref 49)] [] I L Q) : XT (50, 1188) Ln xs mL_law 35 [(0, .ref 1000020), (1, .ref 0), (2, .ref 49)] [.int s0] I L Q := by
  exact x_if_eq 62 dL_law_35 (by decide) (fun h => x_sub [] rfl (K1 h)) (fun h => K2 h)
theorem bL_law_38 {I : Nat → Nat → Int32} {L : Nat → Int64} {Q : Option Value → (Nat → Nat → Int32) → (Nat → Int64) → Prop} {Ln : Nat} {xs : Nat → Int32}   (K : XS mL_refused 0 [(0, .ref 0)] [] I L (fun r I' L' => XT (50, 1188) Ln xs mL_law 42 [(0, .ref 1000020), (1, .ref 0), (2, .ref 49)] (r.toList ++ []) I' L' Q)) : XT (50, 1188) Ln xs mL_law 38 [(0, .ref 1000020), (1, .ref 0), (2, .ref 49)] [] I L Q := by
  refine x_aload_n 1 dL_law_38 rfl rfl ?_
  exact xt_callS mL_refused [.ref 0] [] 1 _ rfl dL_law_39 ml_L_133 qL_refused rfl ⟨Nat.le_of_ble_eq_true rfl, Nat.le_of_ble_eq_true rfl⟩ ⟨Nat.le_of_ble_eq_true rfl, Nat.le_of_ble_eq_true rfl⟩ ⟨rfl, rfl⟩ (Nat.le_of_ble_eq_true rfl) (Nat.le_of_ble_eq_true rfl) (K)
theorem bL_law_42 {I : Nat → Nat → Int32} {L : Nat → Int64} {Q : Option Value → (Nat → Nat → Int32) → (Nat → Int64) → Prop} {Ln : Nat} {xs : Nat → Int32} {s0 : Int32}  (K1 : (s0 = 0) → XT (50, 1188) Ln xs mL_law 62 [] [] I L Q) (K2 : (¬ s0 = 0) → XT (50, 1188) Ln xs mL_law 45 [(0, .ref 1000020), (1, .ref 0), (2, .ref 49)] [] I L Q) : XT (50, 1188) Ln xs mL_law 42 [(0, .ref 1000020), (1, .ref 0), (2, .ref 49)] [.int s0] I L Q := by
  exact x_if_eq 62 dL_law_42 (by decide) (fun h => x_sub [] rfl (K1 h)) (fun h => K2 h)
theorem bL_law_45 {I : Nat → Nat → Int32} {L : Nat → Int64} {Q : Option Value → (Nat → Nat → Int32) → (Nat → Int64) → Prop} {Ln : Nat} {xs : Nat → Int32}   (K : XS mL_most 0 [(0, .ref 0)] [] I L (fun r I' L' => XT (50, 1188) Ln xs mL_law 49 [(0, .ref 1000020), (1, .ref 0), (2, .ref 49)] (r.toList ++ []) I' L' Q)) : XT (50, 1188) Ln xs mL_law 45 [(0, .ref 1000020), (1, .ref 0), (2, .ref 49)] [] I L Q := by
  refine x_aload_n 1 dL_law_45 rfl rfl ?_
  exact xt_callS mL_most [.ref 0] [] 1 _ rfl dL_law_46 ml_L_136 qL_most rfl ⟨Nat.le_of_ble_eq_true rfl, Nat.le_of_ble_eq_true rfl⟩ ⟨Nat.le_of_ble_eq_true rfl, Nat.le_of_ble_eq_true rfl⟩ ⟨rfl, rfl⟩ (Nat.le_of_ble_eq_true rfl) (Nat.le_of_ble_eq_true rfl) (K)
theorem bL_law_49 {I : Nat → Nat → Int32} {L : Nat → Int64} {Q : Option Value → (Nat → Nat → Int32) → (Nat → Int64) → Prop} {Ln : Nat} {xs : Nat → Int32} {s0 : Int32}  (K1 : (s0 = 0) → XT (50, 1188) Ln xs mL_law 62 [] [] I L Q) (K2 : (¬ s0 = 0) → XT (50, 1188) Ln xs mL_law 52 [(0, .ref 1000020), (1, .ref 0), (2, .ref 49)] [] I L Q) : XT (50, 1188) Ln xs mL_law 49 [(0, .ref 1000020), (1, .ref 0), (2, .ref 49)] [.int s0] I L Q := by
  exact x_if_eq 62 dL_law_49 (by decide) (fun h => x_sub [] rfl (K1 h)) (fun h => K2 h)
theorem bL_law_52 {I : Nat → Nat → Int32} {L : Nat → Int64} {Q : Option Value → (Nat → Nat → Int32) → (Nat → Int64) → Prop} {Ln : Nat} {xs : Nat → Int32}   (K : XT (0, 0) Ln xs mL_nets 0 [(0, .ref 0), (1, .ref 49), (2, .ref 1000020), (3, .int (0 : Int32))] [] I L (fun r I' L' => XT (50, 1188) Ln xs mL_law 59 [(0, .ref 1000020), (1, .ref 0), (2, .ref 49)] (r.toList ++ []) I' L' Q)) : XT (50, 1188) Ln xs mL_law 52 [(0, .ref 1000020), (1, .ref 0), (2, .ref 49)] [] I L Q := by
  refine x_aload_n 1 dL_law_52 rfl rfl ?_
  refine x_aload_n 2 dL_law_53 rfl rfl ?_
  refine x_aload_n 0 dL_law_54 rfl rfl ?_
  refine x_iconst (v := (0 : Int32)) dL_law_55 (by decide) ?_
  exact xt_callSS mL_nets [.ref 0, .ref 49, .ref 1000020, .int (0 : Int32)] [] 4 _ rfl dL_law_56 ml_L_139 qL_nets rfl ⟨Nat.le_of_ble_eq_true rfl, Nat.le_of_ble_eq_true rfl⟩ ⟨Nat.le_of_ble_eq_true rfl, Nat.le_of_ble_eq_true rfl⟩ ⟨rfl, rfl⟩ (Nat.le_of_ble_eq_true rfl) (Nat.le_of_ble_eq_true rfl) (K)
theorem bL_law_59 {I : Nat → Nat → Int32} {L : Nat → Int64} {Q : Option Value → (Nat → Nat → Int32) → (Nat → Int64) → Prop} {Ln : Nat} {xs : Nat → Int32} {s0 : Int32}  (K1 : (¬ s0 = 0) → XT (50, 1188) Ln xs mL_law 64 [(0, .ref 1000020), (1, .ref 0), (2, .ref 49)] [] I L Q) (K2 : (s0 = 0) → XT (50, 1188) Ln xs mL_law 62 [] [] I L Q) : XT (50, 1188) Ln xs mL_law 59 [(0, .ref 1000020), (1, .ref 0), (2, .ref 49)] [.int s0] I L Q := by
  exact x_if_ne 64 dL_law_59 (by decide) (fun h => K1 h) (fun h => x_sub [] rfl (K2 h))
theorem bL_law_62 {I : Nat → Nat → Int32} {L : Nat → Int64} {Q : Option Value → (Nat → Nat → Int32) → (Nat → Int64) → Prop} {Ln : Nat} {xs : Nat → Int32}   (K : Q (some (.int (0 : Int32))) I L) : XT (50, 1188) Ln xs mL_law 62 [] [] I L Q := by
  refine x_iconst (v := (0 : Int32)) dL_law_62 (by decide) ?_
  exact xt_iret dL_law_63 rfl (x_nar _ (Or.inl rfl)) K
theorem bL_law_64 {I : Nat → Nat → Int32} {L : Nat → Int64} {Q : Option Value → (Nat → Nat → Int32) → (Nat → Int64) → Prop} {Ln : Nat} {xs : Nat → Int32}   (K : XT (50, 1188) Ln xs mL_law 69 [(0, .ref 1000020), (1, .ref 0), (2, .ref 49), (3, .int (0 : Int32)), (4, .int (0 : Int32))] [] I L Q) : XT (50, 1188) Ln xs mL_law 64 [(0, .ref 1000020), (1, .ref 0), (2, .ref 49)] [] I L Q := by
  refine x_iconst (v := (0 : Int32)) dL_law_64 (by decide) ?_
  refine x_istore_n [(0, .ref 1000020), (1, .ref 0), (2, .ref 49), (3, .int (0 : Int32))] dL_law_65 rfl (Nat.le_of_ble_eq_true rfl) rfl ?_
  refine x_iconst (v := (0 : Int32)) dL_law_66 (by decide) ?_
  refine x_istore [(0, .ref 1000020), (1, .ref 0), (2, .ref 49), (3, .int (0 : Int32)), (4, .int (0 : Int32))] dL_law_67 (Nat.le_of_ble_eq_true rfl) rfl ?_
  exact K
theorem bL_law_69 {I : Nat → Nat → Int32} {L : Nat → Int64} {Q : Option Value → (Nat → Nat → Int32) → (Nat → Int64) → Prop} {Ln : Nat} {xs : Nat → Int32} {v3 : Int32} {v4 : Int32}  (K1 : ((14 : Int32) ≤ v4) → XT (50, 1188) Ln xs mL_law 490 [(0, .ref 1000020), (1, .ref 0), (2, .ref 49)] [] I L Q) (K2 : (¬ (14 : Int32) ≤ v4) → XT (50, 1188) Ln xs mL_law 76 [(0, .ref 1000020), (1, .ref 0), (2, .ref 49), (3, .int v3), (4, .int v4)] [] I L Q) : XT (50, 1188) Ln xs mL_law 69 [(0, .ref 1000020), (1, .ref 0), (2, .ref 49), (3, .int v3), (4, .int v4)] [] I L Q := by
  refine x_iload 4 dL_law_69 rfl ?_
  refine x_bipush (v := (14 : Int32)) dL_law_71 (by decide) ?_
  exact x_icmp_ge 490 dL_law_73 (by decide) (fun h => x_sub [0, 1, 2] rfl (K1 h)) (fun h => K2 h)
theorem bL_law_76 {I : Nat → Nat → Int32} {L : Nat → Int64} {Q : Option Value → (Nat → Nat → Int32) → (Nat → Int64) → Prop} {Ln : Nat} {xs : Nat → Int32} {v3 : Int32} {v4 : Int32}  (K : XT (0, 0) Ln xs mL_cell 0 [(0, .ref 1000020), (1, .int ((16 : Int32) + v4))] [] I L (fun r I' L' => XT (50, 1188) Ln xs mL_law 85 [(0, .ref 1000020), (1, .ref 0), (2, .ref 49), (3, .int v3), (4, .int v4)] (r.toList ++ []) I' L' Q)) : XT (50, 1188) Ln xs mL_law 76 [(0, .ref 1000020), (1, .ref 0), (2, .ref 49), (3, .int v3), (4, .int v4)] [] I L Q := by
  refine x_aload_n 0 dL_law_76 rfl rfl ?_
  refine x_bipush (v := (16 : Int32)) dL_law_77 (by decide) ?_
  refine x_iload 4 dL_law_79 rfl ?_
  refine x_iadd dL_law_81 ?_
  exact xt_callSS mL_cell [.ref 1000020, .int ((16 : Int32) + v4)] [] 2 _ rfl dL_law_82 ml_L_9 qL_cell rfl ⟨Nat.le_of_ble_eq_true rfl, Nat.le_of_ble_eq_true rfl⟩ ⟨Nat.le_of_ble_eq_true rfl, Nat.le_of_ble_eq_true rfl⟩ ⟨rfl, rfl⟩ (Nat.le_of_ble_eq_true rfl) (Nat.le_of_ble_eq_true rfl) (K)
theorem bL_law_85 {I : Nat → Nat → Int32} {L : Nat → Int64} {Q : Option Value → (Nat → Nat → Int32) → (Nat → Int64) → Prop} {Ln : Nat} {xs : Nat → Int32} {v3 : Int32} {v4 : Int32} {s0 : Int32}  (K : XS mL_whole 0 [(0, .ref 0)] [] I L (fun r I' L' => XT (50, 1188) Ln xs mL_law 91 [(0, .ref 1000020), (1, .ref 0), (2, .ref 49), (3, .int v3), (4, .int v4), (5, .int s0)] (r.toList ++ []) I' L' Q)) : XT (50, 1188) Ln xs mL_law 85 [(0, .ref 1000020), (1, .ref 0), (2, .ref 49), (3, .int v3), (4, .int v4)] [.int s0] I L Q := by
  refine x_istore [(0, .ref 1000020), (1, .ref 0), (2, .ref 49), (3, .int v3), (4, .int v4), (5, .int s0)] dL_law_85 (Nat.le_of_ble_eq_true rfl) rfl ?_
  refine x_aload_n 1 dL_law_87 rfl rfl ?_
  exact xt_callS mL_whole [.ref 0] [] 1 _ rfl dL_law_88 ml_L_68 qL_whole rfl ⟨Nat.le_of_ble_eq_true rfl, Nat.le_of_ble_eq_true rfl⟩ ⟨Nat.le_of_ble_eq_true rfl, Nat.le_of_ble_eq_true rfl⟩ ⟨rfl, rfl⟩ (Nat.le_of_ble_eq_true rfl) (Nat.le_of_ble_eq_true rfl) (K)
theorem bL_law_91 {I : Nat → Nat → Int32} {L : Nat → Int64} {Q : Option Value → (Nat → Nat → Int32) → (Nat → Int64) → Prop} {Ln : Nat} {xs : Nat → Int32} {v3 : Int32} {v4 : Int32} {v5 : Int32} {s0 : Int64}  (K : XS mL_part 0 [(0, .int (v5 >>> ((3 : Int32) &&& 31))), (1, .int (I 3136 0))] [] I L (fun r I' L' => XT (50, 1188) Ln xs mL_law 103 [(0, .ref 1000020), (1, .ref 0), (2, .ref 49), (3, .int v3), (4, .int v4), (5, .int v5), (6, .long s0)] (r.toList ++ []) I' L' Q)) : XT (50, 1188) Ln xs mL_law 91 [(0, .ref 1000020), (1, .ref 0), (2, .ref 49), (3, .int v3), (4, .int v4), (5, .int v5)] [.long s0] I L Q := by
  refine x_lstore [(0, .ref 1000020), (1, .ref 0), (2, .ref 49), (3, .int v3), (4, .int v4), (5, .int v5), (6, .long s0)] dL_law_91 (Nat.le_of_ble_eq_true rfl) rfl ?_
  refine x_iload 5 dL_law_93 rfl ?_
  refine x_iconst (v := (3 : Int32)) dL_law_95 (by decide) ?_
  refine x_ishr dL_law_96 ?_
  refine x_aload_n 2 dL_law_97 rfl rfl ?_
  refine x_iconst (v := (0 : Int32)) dL_law_98 (by decide) ?_
  refine xt_iald 3136 (0) dL_law_99 sh_49 rfl (by decide) (x_vpin (by decide)) ?_
  exact xt_callS mL_part [.int (v5 >>> ((3 : Int32) &&& 31)), .int (I 3136 0)] [] 2 _ rfl dL_law_100 ml_L_15 qL_part rfl ⟨Nat.le_of_ble_eq_true rfl, Nat.le_of_ble_eq_true rfl⟩ ⟨Nat.le_of_ble_eq_true rfl, Nat.le_of_ble_eq_true rfl⟩ ⟨rfl, rfl⟩ (Nat.le_of_ble_eq_true rfl) (Nat.le_of_ble_eq_true rfl) (K)
theorem bL_law_103 {I : Nat → Nat → Int32} {L : Nat → Int64} {Q : Option Value → (Nat → Nat → Int32) → (Nat → Int64) → Prop} {Ln : Nat} {xs : Nat → Int32} {v3 : Int32} {v4 : Int32} {v5 : Int32} {v6 : Int64} {s0 : Int32}  (K : XS mL_part 0 [(0, .int (v5 >>> ((6 : Int32) &&& 31))), (1, .int (I 3136 0))] [] I L (fun r I' L' => XT (50, 1188) Ln xs mL_law 116 [(0, .ref 1000020), (1, .ref 0), (2, .ref 49), (3, .int v3), (4, .int v4), (5, .int v5), (6, .long v6), (8, .int s0)] (r.toList ++ []) I' L' Q)) : XT (50, 1188) Ln xs mL_law 103 [(0, .ref 1000020), (1, .ref 0), (2, .ref 49), (3, .int v3), (4, .int v4), (5, .int v5), (6, .long v6)] [.int s0] I L Q := by
  refine x_istore [(0, .ref 1000020), (1, .ref 0), (2, .ref 49), (3, .int v3), (4, .int v4), (5, .int v5), (6, .long v6), (8, .int s0)] dL_law_103 (Nat.le_of_ble_eq_true rfl) rfl ?_
  refine x_iload 5 dL_law_105 rfl ?_
  refine x_bipush (v := (6 : Int32)) dL_law_107 (by decide) ?_
  refine x_ishr dL_law_109 ?_
  refine x_aload_n 2 dL_law_110 rfl rfl ?_
  refine x_iconst (v := (0 : Int32)) dL_law_111 (by decide) ?_
  refine xt_iald 3136 (0) dL_law_112 sh_49 rfl (by decide) (x_vpin (by decide)) ?_
  exact xt_callS mL_part [.int (v5 >>> ((6 : Int32) &&& 31)), .int (I 3136 0)] [] 2 _ rfl dL_law_113 ml_L_15 qL_part rfl ⟨Nat.le_of_ble_eq_true rfl, Nat.le_of_ble_eq_true rfl⟩ ⟨Nat.le_of_ble_eq_true rfl, Nat.le_of_ble_eq_true rfl⟩ ⟨rfl, rfl⟩ (Nat.le_of_ble_eq_true rfl) (Nat.le_of_ble_eq_true rfl) (K)
theorem bL_law_116 {I : Nat → Nat → Int32} {L : Nat → Int64} {Q : Option Value → (Nat → Nat → Int32) → (Nat → Int64) → Prop} {Ln : Nat} {xs : Nat → Int32} {v3 : Int32} {v4 : Int32} {v5 : Int32} {v6 : Int64} {v8 : Int32} {s0 : Int32}  (K : XS mL_part 0 [(0, .int v5), (1, .int (8 : Int32))] [] I L (fun r I' L' => XT (50, 1188) Ln xs mL_law 125 [(0, .ref 1000020), (1, .ref 0), (2, .ref 49), (3, .int v3), (4, .int v4), (5, .int v5), (6, .long v6), (8, .int v8), (9, .int s0)] (r.toList ++ []) I' L' Q)) : XT (50, 1188) Ln xs mL_law 116 [(0, .ref 1000020), (1, .ref 0), (2, .ref 49), (3, .int v3), (4, .int v4), (5, .int v5), (6, .long v6), (8, .int v8)] [.int s0] I L Q := by
  refine x_istore [(0, .ref 1000020), (1, .ref 0), (2, .ref 49), (3, .int v3), (4, .int v4), (5, .int v5), (6, .long v6), (8, .int v8), (9, .int s0)] dL_law_116 (Nat.le_of_ble_eq_true rfl) rfl ?_
  refine x_iload 5 dL_law_118 rfl ?_
  refine x_bipush (v := (8 : Int32)) dL_law_120 (by decide) ?_
  exact xt_callS mL_part [.int v5, .int (8 : Int32)] [] 2 _ rfl dL_law_122 ml_L_15 qL_part rfl ⟨Nat.le_of_ble_eq_true rfl, Nat.le_of_ble_eq_true rfl⟩ ⟨Nat.le_of_ble_eq_true rfl, Nat.le_of_ble_eq_true rfl⟩ ⟨rfl, rfl⟩ (Nat.le_of_ble_eq_true rfl) (Nat.le_of_ble_eq_true rfl) (K)
theorem bL_law_125 {I : Nat → Nat → Int32} {L : Nat → Int64} {Q : Option Value → (Nat → Nat → Int32) → (Nat → Int64) → Prop} {Ln : Nat} {xs : Nat → Int32} {v3 : Int32} {v4 : Int32} {v5 : Int32} {v6 : Int64} {v8 : Int32} {v9 : Int32} {s0 : Int32}  (K : XS mL_part 0 [(0, .int (v5 >>> ((9 : Int32) &&& 31))), (1, .int ((I 3136 1) + (1 : Int32)))] [] I L (fun r I' L' => XT (50, 1188) Ln xs mL_law 140 [(0, .ref 1000020), (1, .ref 0), (2, .ref 49), (3, .int v3), (4, .int v4), (5, .int v5), (6, .long v6), (8, .int v8), (9, .int v9), (10, .int s0)] (r.toList ++ []) I' L' Q)) : XT (50, 1188) Ln xs mL_law 125 [(0, .ref 1000020), (1, .ref 0), (2, .ref 49), (3, .int v3), (4, .int v4), (5, .int v5), (6, .long v6), (8, .int v8), (9, .int v9)] [.int s0] I L Q := by
  refine x_istore [(0, .ref 1000020), (1, .ref 0), (2, .ref 49), (3, .int v3), (4, .int v4), (5, .int v5), (6, .long v6), (8, .int v8), (9, .int v9), (10, .int s0)] dL_law_125 (Nat.le_of_ble_eq_true rfl) rfl ?_
  refine x_iload 5 dL_law_127 rfl ?_
  refine x_bipush (v := (9 : Int32)) dL_law_129 (by decide) ?_
  refine x_ishr dL_law_131 ?_
  refine x_aload_n 2 dL_law_132 rfl rfl ?_
  refine x_iconst (v := (1 : Int32)) dL_law_133 (by decide) ?_
  refine xt_iald 3136 (1) dL_law_134 sh_49 rfl (by decide) (x_vpin (by decide)) ?_
  refine x_iconst (v := (1 : Int32)) dL_law_135 (by decide) ?_
  refine x_iadd dL_law_136 ?_
  exact xt_callS mL_part [.int (v5 >>> ((9 : Int32) &&& 31)), .int ((I 3136 1) + (1 : Int32))] [] 2 _ rfl dL_law_137 ml_L_15 qL_part rfl ⟨Nat.le_of_ble_eq_true rfl, Nat.le_of_ble_eq_true rfl⟩ ⟨Nat.le_of_ble_eq_true rfl, Nat.le_of_ble_eq_true rfl⟩ ⟨rfl, rfl⟩ (Nat.le_of_ble_eq_true rfl) (Nat.le_of_ble_eq_true rfl) (K)
theorem bL_law_140 {I : Nat → Nat → Int32} {L : Nat → Int64} {Q : Option Value → (Nat → Nat → Int32) → (Nat → Int64) → Prop} {Ln : Nat} {xs : Nat → Int32} {v3 : Int32} {v4 : Int32} {v5 : Int32} {v6 : Int64} {v8 : Int32} {v9 : Int32} {v10 : Int32} {s0 : Int32}  (K1 : ((2 : Int32) ≤ v10) → XT (50, 1188) Ln xs mL_law 199 [(0, .ref 1000020), (1, .ref 0), (2, .ref 49), (3, .int v3), (4, .int v4), (5, .int v5), (6, .long v6), (8, .int v8), (9, .int v9), (10, .int v10), (11, .int s0)] [] I L Q) (K2 : (¬ (2 : Int32) ≤ v10) → XT (50, 1188) Ln xs mL_law 148 [(0, .ref 1000020), (1, .ref 0), (2, .ref 49), (3, .int v3), (4, .int v4), (5, .int v5), (9, .int v9)] [] I L Q) : XT (50, 1188) Ln xs mL_law 140 [(0, .ref 1000020), (1, .ref 0), (2, .ref 49), (3, .int v3), (4, .int v4), (5, .int v5), (6, .long v6), (8, .int v8), (9, .int v9), (10, .int v10)] [.int s0] I L Q := by
  refine x_istore [(0, .ref 1000020), (1, .ref 0), (2, .ref 49), (3, .int v3), (4, .int v4), (5, .int v5), (6, .long v6), (8, .int v8), (9, .int v9), (10, .int v10), (11, .int s0)] dL_law_140 (Nat.le_of_ble_eq_true rfl) rfl ?_
  refine x_iload 9 dL_law_142 rfl ?_
  refine x_iconst (v := (2 : Int32)) dL_law_144 (by decide) ?_
  exact x_icmp_ge 199 dL_law_145 (by decide) (fun h => K1 h) (fun h => x_sub [0, 1, 2, 3, 4, 5, 8] rfl (K2 h))
theorem bL_law_148 {I : Nat → Nat → Int32} {L : Nat → Int64} {Q : Option Value → (Nat → Nat → Int32) → (Nat → Int64) → Prop} {Ln : Nat} {xs : Nat → Int32} {v3 : Int32} {v4 : Int32} {v5 : Int32} {v9 : Int32}  (K : XS mL_part 0 [(0, .int (v5 >>> ((3 : Int32) &&& 31))), (1, .int (3 : Int32))] [] I L (fun r I' L' => XT (50, 1188) Ln xs mL_law 157 [(0, .ref 1000020), (1, .ref 0), (2, .ref 49), (3, .int v3), (4, .int v4), (5, .int v5), (9, .int v9)] (r.toList ++ [.ref 0]) I' L' Q)) : XT (50, 1188) Ln xs mL_law 148 [(0, .ref 1000020), (1, .ref 0), (2, .ref 49), (3, .int v3), (4, .int v4), (5, .int v5), (9, .int v9)] [] I L Q := by
  refine x_aload_n 1 dL_law_148 rfl rfl ?_
  refine x_iload 5 dL_law_149 rfl ?_
  refine x_iconst (v := (3 : Int32)) dL_law_151 (by decide) ?_
  refine x_ishr dL_law_152 ?_
  refine x_iconst (v := (3 : Int32)) dL_law_153 (by decide) ?_
  exact xt_callS mL_part [.int (v5 >>> ((3 : Int32) &&& 31)), .int (3 : Int32)] [.ref 0] 2 _ rfl dL_law_154 ml_L_15 qL_part rfl ⟨Nat.le_of_ble_eq_true rfl, Nat.le_of_ble_eq_true rfl⟩ ⟨Nat.le_of_ble_eq_true rfl, Nat.le_of_ble_eq_true rfl⟩ ⟨rfl, rfl⟩ (Nat.le_of_ble_eq_true rfl) (Nat.le_of_ble_eq_true rfl) (K)
theorem bL_law_157 {I : Nat → Nat → Int32} {L : Nat → Int64} {Q : Option Value → (Nat → Nat → Int32) → (Nat → Int64) → Prop} {Ln : Nat} {xs : Nat → Int32} {v3 : Int32} {v4 : Int32} {v5 : Int32} {v9 : Int32} {s1 : Int32}  (K : XS mL_part 0 [(0, .int (v5 >>> ((9 : Int32) &&& 31))), (1, .int (8 : Int32))] [] I L (fun r I' L' => XT (50, 1188) Ln xs mL_law 167 [(0, .ref 1000020), (1, .ref 0), (2, .ref 49), (3, .int v3), (4, .int v4), (9, .int v9)] (r.toList ++ [.int s1, .ref 0]) I' L' Q)) : XT (50, 1188) Ln xs mL_law 157 [(0, .ref 1000020), (1, .ref 0), (2, .ref 49), (3, .int v3), (4, .int v4), (5, .int v5), (9, .int v9)] [.int s1, .ref 0] I L Q := by
  refine x_iload 5 dL_law_157 rfl ?_
  refine x_bipush (v := (9 : Int32)) dL_law_159 (by decide) ?_
  refine x_ishr dL_law_161 ?_
  refine x_bipush (v := (8 : Int32)) dL_law_162 (by decide) ?_
  refine x_sub [0, 1, 2, 3, 4, 6] rfl ?_
  exact xt_callS mL_part [.int (v5 >>> ((9 : Int32) &&& 31)), .int (8 : Int32)] [.int s1, .ref 0] 2 _ rfl dL_law_164 ml_L_15 qL_part rfl ⟨Nat.le_of_ble_eq_true rfl, Nat.le_of_ble_eq_true rfl⟩ ⟨Nat.le_of_ble_eq_true rfl, Nat.le_of_ble_eq_true rfl⟩ ⟨rfl, rfl⟩ (Nat.le_of_ble_eq_true rfl) (Nat.le_of_ble_eq_true rfl) (K)
theorem bL_law_167 {I : Nat → Nat → Int32} {L : Nat → Int64} {Q : Option Value → (Nat → Nat → Int32) → (Nat → Int64) → Prop} {Ln : Nat} {xs : Nat → Int32} {v3 : Int32} {v4 : Int32} {v9 : Int32} {s1 : Int32} {s2 : Int32}  (K : XS mX9_push 0 [(0, .ref 0), (1, .int s1), (2, .int s2)] [] I L (fun r I' L' => XT (50, 1188) Ln xs mL_law 170 [(0, .ref 1000020), (1, .ref 0), (2, .ref 49), (3, .int v3), (4, .int v4), (9, .int v9)] (r.toList ++ []) I' L' Q)) : XT (50, 1188) Ln xs mL_law 167 [(0, .ref 1000020), (1, .ref 0), (2, .ref 49), (3, .int v3), (4, .int v4), (9, .int v9)] [.int s2, .int s1, .ref 0] I L Q := by
  exact xt_callV mX9_push [.int s1, .int s2] [] 0 9 2 _ rfl dL_law_167 ml_L_103 qX9_push rfl ⟨Nat.le_of_ble_eq_true rfl, Nat.le_of_ble_eq_true rfl⟩ ⟨Nat.le_of_ble_eq_true rfl, Nat.le_of_ble_eq_true rfl⟩ ⟨rfl, rfl⟩ (Nat.le_of_ble_eq_true rfl) sh_0 (by decide) rfl (Nat.le_of_ble_eq_true rfl) (K)
theorem bL_law_170 {I : Nat → Nat → Int32} {L : Nat → Int64} {Q : Option Value → (Nat → Nat → Int32) → (Nat → Int64) → Prop} {Ln : Nat} {xs : Nat → Int32} {v3 : Int32} {v4 : Int32} {v9 : Int32} {s0 : Int32}  (K1 : (s0 < (-5 : Int32)) → XT (50, 1188) Ln xs mL_law 185 [] [] I L Q) (K2 : (¬ s0 < (-5 : Int32)) → XT (50, 1188) Ln xs mL_law 175 [(0, .ref 1000020), (1, .ref 0), (2, .ref 49), (3, .int v3), (4, .int v4), (9, .int v9)] [] I L Q) : XT (50, 1188) Ln xs mL_law 170 [(0, .ref 1000020), (1, .ref 0), (2, .ref 49), (3, .int v3), (4, .int v4), (9, .int v9)] [.int s0] I L Q := by
  refine x_bipush (v := (-5 : Int32)) dL_law_170 (by decide) ?_
  exact x_icmp_lt 185 dL_law_172 (by decide) (fun h => x_sub [] rfl (K1 h)) (fun h => K2 h)
theorem bL_law_175 {I : Nat → Nat → Int32} {L : Nat → Int64} {Q : Option Value → (Nat → Nat → Int32) → (Nat → Int64) → Prop} {Ln : Nat} {xs : Nat → Int32} {v3 : Int32} {v4 : Int32} {v9 : Int32}  (K : XS mX9_count 0 [(0, .ref 0), (1, .int (4 : Int32))] [] I L (fun r I' L' => XT (50, 1188) Ln xs mL_law 180 [(0, .ref 1000020), (1, .ref 0), (2, .ref 49), (3, .int v3), (4, .int v4), (9, .int v9)] (r.toList ++ []) I' L' Q)) : XT (50, 1188) Ln xs mL_law 175 [(0, .ref 1000020), (1, .ref 0), (2, .ref 49), (3, .int v3), (4, .int v4), (9, .int v9)] [] I L Q := by
  refine x_aload_n 1 dL_law_175 rfl rfl ?_
  refine x_iconst (v := (4 : Int32)) dL_law_176 (by decide) ?_
  exact xt_callV mX9_count [.int (4 : Int32)] [] 0 9 1 _ rfl dL_law_177 ml_L_39 qX9_count rfl ⟨Nat.le_of_ble_eq_true rfl, Nat.le_of_ble_eq_true rfl⟩ ⟨Nat.le_of_ble_eq_true rfl, Nat.le_of_ble_eq_true rfl⟩ ⟨rfl, rfl⟩ (Nat.le_of_ble_eq_true rfl) sh_0 (by decide) rfl (Nat.le_of_ble_eq_true rfl) (K)
theorem bL_law_180 {I : Nat → Nat → Int32} {L : Nat → Int64} {Q : Option Value → (Nat → Nat → Int32) → (Nat → Int64) → Prop} {Ln : Nat} {xs : Nat → Int32} {v3 : Int32} {v4 : Int32} {v9 : Int32} {s0 : Int32}  (K1 : (s0 ≤ (8 : Int32)) → XT (50, 1188) Ln xs mL_law 187 [(0, .ref 1000020), (1, .ref 0), (2, .ref 49), (3, .int v3), (4, .int v4), (9, .int v9)] [] I L Q) (K2 : (¬ s0 ≤ (8 : Int32)) → XT (50, 1188) Ln xs mL_law 185 [] [] I L Q) : XT (50, 1188) Ln xs mL_law 180 [(0, .ref 1000020), (1, .ref 0), (2, .ref 49), (3, .int v3), (4, .int v4), (9, .int v9)] [.int s0] I L Q := by
  refine x_bipush (v := (8 : Int32)) dL_law_180 (by decide) ?_
  exact x_icmp_le 187 dL_law_182 (by decide) (fun h => K1 h) (fun h => x_sub [] rfl (K2 h))
theorem bL_law_185 {I : Nat → Nat → Int32} {L : Nat → Int64} {Q : Option Value → (Nat → Nat → Int32) → (Nat → Int64) → Prop} {Ln : Nat} {xs : Nat → Int32}   (K : Q (some (.int (0 : Int32))) I L) : XT (50, 1188) Ln xs mL_law 185 [] [] I L Q := by
  refine x_iconst (v := (0 : Int32)) dL_law_185 (by decide) ?_
  exact xt_iret dL_law_186 rfl (x_nar _ (Or.inl rfl)) K
theorem bL_law_187 {I : Nat → Nat → Int32} {L : Nat → Int64} {Q : Option Value → (Nat → Nat → Int32) → (Nat → Int64) → Prop} {Ln : Nat} {xs : Nat → Int32} {v3 : Int32} {v4 : Int32} {v9 : Int32}  (K : XS mL_goes 0 [(0, .ref 0), (1, .ref 49), (2, .int v9)] [] I L (fun r I' L' => XT (50, 1188) Ln xs mL_law 194 [(0, .ref 1000020), (1, .ref 0), (2, .ref 49), (3, .int v3), (4, .int v4)] (r.toList ++ []) I' L' Q)) : XT (50, 1188) Ln xs mL_law 187 [(0, .ref 1000020), (1, .ref 0), (2, .ref 49), (3, .int v3), (4, .int v4), (9, .int v9)] [] I L Q := by
  refine x_aload_n 1 dL_law_187 rfl rfl ?_
  refine x_aload_n 2 dL_law_188 rfl rfl ?_
  refine x_iload 5 dL_law_189 rfl ?_
  refine x_sub [0, 1, 2, 3, 4] rfl ?_
  exact xt_callS mL_goes [.ref 0, .ref 49, .int v9] [] 3 _ rfl dL_law_191 ml_L_143 qL_goes rfl ⟨Nat.le_of_ble_eq_true rfl, Nat.le_of_ble_eq_true rfl⟩ ⟨Nat.le_of_ble_eq_true rfl, Nat.le_of_ble_eq_true rfl⟩ ⟨rfl, rfl⟩ (Nat.le_of_ble_eq_true rfl) (Nat.le_of_ble_eq_true rfl) (K)
theorem bL_law_194 {I : Nat → Nat → Int32} {L : Nat → Int64} {Q : Option Value → (Nat → Nat → Int32) → (Nat → Int64) → Prop} {Ln : Nat} {xs : Nat → Int32} {v3 : Int32} {v4 : Int32} {s0 : Int32}  (K1 : (¬ s0 = 0) → XT (50, 1188) Ln xs mL_law 484 [(0, .ref 1000020), (1, .ref 0), (2, .ref 49), (3, .int v3), (4, .int v4)] [] I L Q) (K2 : (s0 = 0) → XT (50, 1188) Ln xs mL_law 197 [] [] I L Q) : XT (50, 1188) Ln xs mL_law 194 [(0, .ref 1000020), (1, .ref 0), (2, .ref 49), (3, .int v3), (4, .int v4)] [.int s0] I L Q := by
  exact x_if_ne 484 dL_law_194 (by decide) (fun h => K1 h) (fun h => x_sub [] rfl (K2 h))
theorem bL_law_197 {I : Nat → Nat → Int32} {L : Nat → Int64} {Q : Option Value → (Nat → Nat → Int32) → (Nat → Int64) → Prop} {Ln : Nat} {xs : Nat → Int32}   (K : Q (some (.int (0 : Int32))) I L) : XT (50, 1188) Ln xs mL_law 197 [] [] I L Q := by
  refine x_iconst (v := (0 : Int32)) dL_law_197 (by decide) ?_
  exact xt_iret dL_law_198 rfl (x_nar _ (Or.inl rfl)) K
theorem bL_law_199 {I : Nat → Nat → Int32} {L : Nat → Int64} {Q : Option Value → (Nat → Nat → Int32) → (Nat → Int64) → Prop} {Ln : Nat} {xs : Nat → Int32} {v3 : Int32} {v4 : Int32} {v5 : Int32} {v6 : Int64} {v8 : Int32} {v9 : Int32} {v10 : Int32} {v11 : Int32}  (K1 : (¬ v10 = (2 : Int32)) → XT (50, 1188) Ln xs mL_law 287 [(0, .ref 1000020), (1, .ref 0), (2, .ref 49), (3, .int v3), (4, .int v4), (5, .int v5), (6, .long v6), (8, .int v8), (10, .int v10), (11, .int v11)] [] I L Q) (K2 : (v10 = (2 : Int32)) → XT (50, 1188) Ln xs mL_law 205 [(0, .ref 1000020), (1, .ref 0), (2, .ref 49), (3, .int v3), (4, .int v4), (5, .int v5), (8, .int v8), (9, .int v9)] [] I L Q) : XT (50, 1188) Ln xs mL_law 199 [(0, .ref 1000020), (1, .ref 0), (2, .ref 49), (3, .int v3), (4, .int v4), (5, .int v5), (6, .long v6), (8, .int v8), (9, .int v9), (10, .int v10), (11, .int v11)] [] I L Q := by
  refine x_iload 9 dL_law_199 rfl ?_
  refine x_iconst (v := (2 : Int32)) dL_law_201 (by decide) ?_
  exact x_icmp_ne 287 dL_law_202 (by decide) (fun h => x_sub [0, 1, 2, 3, 4, 5, 6, 7, 9, 10] rfl (K1 h)) (fun h => x_sub [0, 1, 2, 3, 4, 5, 7, 8] rfl (K2 h))
theorem bL_law_205 {I : Nat → Nat → Int32} {L : Nat → Int64} {Q : Option Value → (Nat → Nat → Int32) → (Nat → Int64) → Prop} {Ln : Nat} {xs : Nat → Int32} {v3 : Int32} {v4 : Int32} {v5 : Int32} {v8 : Int32} {v9 : Int32}  (K : XS mX9_trace 0 [(0, .ref 0), (1, .int v8)] [] I L (fun r I' L' => XT (50, 1188) Ln xs mL_law 211 [(0, .ref 1000020), (1, .ref 0), (2, .ref 49), (3, .int v3), (4, .int v4), (5, .int v5), (9, .int v9)] (r.toList ++ []) I' L' Q)) : XT (50, 1188) Ln xs mL_law 205 [(0, .ref 1000020), (1, .ref 0), (2, .ref 49), (3, .int v3), (4, .int v4), (5, .int v5), (8, .int v8), (9, .int v9)] [] I L Q := by
  refine x_aload_n 1 dL_law_205 rfl rfl ?_
  refine x_iload 6 dL_law_206 rfl ?_
  refine x_sub [0, 1, 2, 3, 4, 5, 7] rfl ?_
  exact xt_callV mX9_trace [.int v8] [] 0 9 1 _ rfl dL_law_208 ml_L_110 qX9_trace rfl ⟨Nat.le_of_ble_eq_true rfl, Nat.le_of_ble_eq_true rfl⟩ ⟨Nat.le_of_ble_eq_true rfl, Nat.le_of_ble_eq_true rfl⟩ ⟨rfl, rfl⟩ (Nat.le_of_ble_eq_true rfl) sh_0 (by decide) rfl (Nat.le_of_ble_eq_true rfl) (K)
theorem bL_law_211 {I : Nat → Nat → Int32} {L : Nat → Int64} {Q : Option Value → (Nat → Nat → Int32) → (Nat → Int64) → Prop} {Ln : Nat} {xs : Nat → Int32} {v3 : Int32} {v4 : Int32} {v5 : Int32} {v9 : Int32} {s0 : Int32}  (K : XS mX9_trace 0 [(0, .ref 0), (1, .int v9)] [] I L (fun r I' L' => XT (50, 1188) Ln xs mL_law 218 [(0, .ref 1000020), (1, .ref 0), (2, .ref 49), (3, .int v3), (4, .int v4), (5, .int v5), (9, .int v9)] (r.toList ++ []) I' L' Q)) : XT (50, 1188) Ln xs mL_law 211 [(0, .ref 1000020), (1, .ref 0), (2, .ref 49), (3, .int v3), (4, .int v4), (5, .int v5), (9, .int v9)] [.int s0] I L Q := by
  refine x_pop dL_law_211 rfl ?_
  refine x_aload_n 1 dL_law_212 rfl rfl ?_
  refine x_iload 6 dL_law_213 rfl ?_
  exact xt_callV mX9_trace [.int v9] [] 0 9 1 _ rfl dL_law_215 ml_L_110 qX9_trace rfl ⟨Nat.le_of_ble_eq_true rfl, Nat.le_of_ble_eq_true rfl⟩ ⟨Nat.le_of_ble_eq_true rfl, Nat.le_of_ble_eq_true rfl⟩ ⟨rfl, rfl⟩ (Nat.le_of_ble_eq_true rfl) sh_0 (by decide) rfl (Nat.le_of_ble_eq_true rfl) (K)
theorem bL_law_218 {I : Nat → Nat → Int32} {L : Nat → Int64} {Q : Option Value → (Nat → Nat → Int32) → (Nat → Int64) → Prop} {Ln : Nat} {xs : Nat → Int32} {v3 : Int32} {v4 : Int32} {v5 : Int32} {v9 : Int32} {s0 : Int32} (hn1 : ¬ (I 3136 0) = 0) (K : XS mX9_trace 0 [(0, .ref 0), (1, .int ((v9 + (1 : Int32)) - (v9 + (1 : Int32)) / (I 3136 0) * (I 3136 0)))] [] I L (fun r I' L' => XT (50, 1188) Ln xs mL_law 231 [(0, .ref 1000020), (1, .ref 0), (2, .ref 49), (3, .int v3), (4, .int v4), (5, .int v5)] (r.toList ++ []) I' L' Q)) : XT (50, 1188) Ln xs mL_law 218 [(0, .ref 1000020), (1, .ref 0), (2, .ref 49), (3, .int v3), (4, .int v4), (5, .int v5), (9, .int v9)] [.int s0] I L Q := by
  refine x_pop dL_law_218 rfl ?_
  refine x_aload_n 1 dL_law_219 rfl rfl ?_
  refine x_iload 6 dL_law_220 rfl ?_
  refine x_iconst (v := (1 : Int32)) dL_law_222 (by decide) ?_
  refine x_iadd dL_law_223 ?_
  refine x_aload_n 2 dL_law_224 rfl rfl ?_
  refine x_iconst (v := (0 : Int32)) dL_law_225 (by decide) ?_
  refine xt_iald 3136 (0) dL_law_226 sh_49 rfl (by decide) (x_vpin (by decide)) ?_
  refine x_irem dL_law_227 hn1 ?_
  refine x_sub [0, 1, 2, 3, 4, 5] rfl ?_
  exact xt_callV mX9_trace [.int ((v9 + (1 : Int32)) - (v9 + (1 : Int32)) / (I 3136 0) * (I 3136 0))] [] 0 9 1 _ rfl dL_law_228 ml_L_110 qX9_trace rfl ⟨Nat.le_of_ble_eq_true rfl, Nat.le_of_ble_eq_true rfl⟩ ⟨Nat.le_of_ble_eq_true rfl, Nat.le_of_ble_eq_true rfl⟩ ⟨rfl, rfl⟩ (Nat.le_of_ble_eq_true rfl) sh_0 (by decide) rfl (Nat.le_of_ble_eq_true rfl) (K)
theorem bL_law_231 {I : Nat → Nat → Int32} {L : Nat → Int64} {Q : Option Value → (Nat → Nat → Int32) → (Nat → Int64) → Prop} {Ln : Nat} {xs : Nat → Int32} {v3 : Int32} {v4 : Int32} {v5 : Int32} {s0 : Int32}  (K : XS mX9_brief 0 [(0, .ref 0), (1, .int (-1 : Int32))] [] I L (fun r I' L' => XT (50, 1188) Ln xs mL_law 237 [(0, .ref 1000020), (1, .ref 0), (2, .ref 49), (3, .int v3), (4, .int v4), (5, .int v5)] (r.toList ++ []) I' L' Q)) : XT (50, 1188) Ln xs mL_law 231 [(0, .ref 1000020), (1, .ref 0), (2, .ref 49), (3, .int v3), (4, .int v4), (5, .int v5)] [.int s0] I L Q := by
  refine x_pop dL_law_231 rfl ?_
  refine x_aload_n 1 dL_law_232 rfl rfl ?_
  refine x_iconst (v := (-1 : Int32)) dL_law_233 (by decide) ?_
  exact xt_callV mX9_brief [.int (-1 : Int32)] [] 0 9 1 _ rfl dL_law_234 ml_L_63 qX9_brief rfl ⟨Nat.le_of_ble_eq_true rfl, Nat.le_of_ble_eq_true rfl⟩ ⟨Nat.le_of_ble_eq_true rfl, Nat.le_of_ble_eq_true rfl⟩ ⟨rfl, rfl⟩ (Nat.le_of_ble_eq_true rfl) sh_0 (by decide) rfl (Nat.le_of_ble_eq_true rfl) (K)
theorem bL_law_237 {I : Nat → Nat → Int32} {L : Nat → Int64} {Q : Option Value → (Nat → Nat → Int32) → (Nat → Int64) → Prop} {Ln : Nat} {xs : Nat → Int32} {v3 : Int32} {v4 : Int32} {v5 : Int32} {s0 : Int32}  (K : XS mX9_count 0 [(0, .ref 0), (1, .int (5 : Int32))] [] I L (fun r I' L' => XT (50, 1188) Ln xs mL_law 246 [(0, .ref 1000020), (1, .ref 0), (2, .ref 49), (3, .int v3), (4, .int v4), (5, .int v5), (12, .int s0)] (r.toList ++ [.int s0]) I' L' Q)) : XT (50, 1188) Ln xs mL_law 237 [(0, .ref 1000020), (1, .ref 0), (2, .ref 49), (3, .int v3), (4, .int v4), (5, .int v5)] [.int s0] I L Q := by
  refine x_istore [(0, .ref 1000020), (1, .ref 0), (2, .ref 49), (3, .int v3), (4, .int v4), (5, .int v5), (12, .int s0)] dL_law_237 (Nat.le_of_ble_eq_true rfl) rfl ?_
  refine x_iload 6 dL_law_239 rfl ?_
  refine x_aload_n 1 dL_law_241 rfl rfl ?_
  refine x_iconst (v := (5 : Int32)) dL_law_242 (by decide) ?_
  exact xt_callV mX9_count [.int (5 : Int32)] [.int s0] 0 9 1 _ rfl dL_law_243 ml_L_39 qX9_count rfl ⟨Nat.le_of_ble_eq_true rfl, Nat.le_of_ble_eq_true rfl⟩ ⟨Nat.le_of_ble_eq_true rfl, Nat.le_of_ble_eq_true rfl⟩ ⟨rfl, rfl⟩ (Nat.le_of_ble_eq_true rfl) sh_0 (by decide) rfl (Nat.le_of_ble_eq_true rfl) (K)
theorem bL_law_246 {I : Nat → Nat → Int32} {L : Nat → Int64} {Q : Option Value → (Nat → Nat → Int32) → (Nat → Int64) → Prop} {Ln : Nat} {xs : Nat → Int32} {v3 : Int32} {v4 : Int32} {v5 : Int32} {v12 : Int32} {s0 : Int32} {s1 : Int32}  (K1 : ((s1 - (1 : Int32)) < s0) → XT (50, 1188) Ln xs mL_law 285 [] [] I L Q) (K2 : (¬ (s1 - (1 : Int32)) < s0) → XT (50, 1188) Ln xs mL_law 251 [(0, .ref 1000020), (1, .ref 0), (2, .ref 49), (3, .int v3), (4, .int v4), (5, .int v5), (12, .int v12)] [] I L Q) : XT (50, 1188) Ln xs mL_law 246 [(0, .ref 1000020), (1, .ref 0), (2, .ref 49), (3, .int v3), (4, .int v4), (5, .int v5), (12, .int v12)] [.int s1, .int s0] I L Q := by
  refine x_iconst (v := (1 : Int32)) dL_law_246 (by decide) ?_
  refine x_isub dL_law_247 ?_
  exact x_icmp_gt 285 dL_law_248 (by decide) (fun h => x_sub [] rfl (K1 h)) (fun h => K2 h)
theorem bL_law_251 {I : Nat → Nat → Int32} {L : Nat → Int64} {Q : Option Value → (Nat → Nat → Int32) → (Nat → Int64) → Prop} {Ln : Nat} {xs : Nat → Int32} {v3 : Int32} {v4 : Int32} {v5 : Int32} {v12 : Int32}  (K1 : (¬ v12 = 0) → XT (50, 1188) Ln xs mL_law 265 [(0, .ref 1000020), (1, .ref 0), (2, .ref 49), (3, .int v3), (4, .int v4), (5, .int v5)] [] I L Q) (K2 : (v12 = 0) → XT (50, 1188) Ln xs mL_law 256 [(0, .ref 1000020), (1, .ref 0), (2, .ref 49), (3, .int v3), (4, .int v4), (5, .int v5)] [] I L Q) : XT (50, 1188) Ln xs mL_law 251 [(0, .ref 1000020), (1, .ref 0), (2, .ref 49), (3, .int v3), (4, .int v4), (5, .int v5), (12, .int v12)] [] I L Q := by
  refine x_iload 6 dL_law_251 rfl ?_
  exact x_if_ne 265 dL_law_253 (by decide) (fun h => x_sub [0, 1, 2, 3, 4, 5] rfl (K1 h)) (fun h => x_sub [0, 1, 2, 3, 4, 5] rfl (K2 h))
theorem bL_law_256 {I : Nat → Nat → Int32} {L : Nat → Int64} {Q : Option Value → (Nat → Nat → Int32) → (Nat → Int64) → Prop} {Ln : Nat} {xs : Nat → Int32} {v3 : Int32} {v4 : Int32} {v5 : Int32}  (K : XS mX9_count 0 [(0, .ref 0), (1, .int (5 : Int32))] [] I L (fun r I' L' => XT (50, 1188) Ln xs mL_law 261 [(0, .ref 1000020), (1, .ref 0), (2, .ref 49), (3, .int v3), (4, .int v4), (5, .int v5)] (r.toList ++ []) I' L' Q)) : XT (50, 1188) Ln xs mL_law 256 [(0, .ref 1000020), (1, .ref 0), (2, .ref 49), (3, .int v3), (4, .int v4), (5, .int v5)] [] I L Q := by
  refine x_aload_n 1 dL_law_256 rfl rfl ?_
  refine x_iconst (v := (5 : Int32)) dL_law_257 (by decide) ?_
  exact xt_callV mX9_count [.int (5 : Int32)] [] 0 9 1 _ rfl dL_law_258 ml_L_39 qX9_count rfl ⟨Nat.le_of_ble_eq_true rfl, Nat.le_of_ble_eq_true rfl⟩ ⟨Nat.le_of_ble_eq_true rfl, Nat.le_of_ble_eq_true rfl⟩ ⟨rfl, rfl⟩ (Nat.le_of_ble_eq_true rfl) sh_0 (by decide) rfl (Nat.le_of_ble_eq_true rfl) (K)
theorem bL_law_261 {I : Nat → Nat → Int32} {L : Nat → Int64} {Q : Option Value → (Nat → Nat → Int32) → (Nat → Int64) → Prop} {Ln : Nat} {xs : Nat → Int32} {v3 : Int32} {v4 : Int32} {v5 : Int32} {s0 : Int32}  (K1 : ((1 : Int32) < s0) → XT (50, 1188) Ln xs mL_law 285 [] [] I L Q) (K2 : (¬ (1 : Int32) < s0) → XT (50, 1188) Ln xs mL_law 265 [(0, .ref 1000020), (1, .ref 0), (2, .ref 49), (3, .int v3), (4, .int v4), (5, .int v5)] [] I L Q) : XT (50, 1188) Ln xs mL_law 261 [(0, .ref 1000020), (1, .ref 0), (2, .ref 49), (3, .int v3), (4, .int v4), (5, .int v5)] [.int s0] I L Q := by
  refine x_iconst (v := (1 : Int32)) dL_law_261 (by decide) ?_
  exact x_icmp_gt 285 dL_law_262 (by decide) (fun h => x_sub [] rfl (K1 h)) (fun h => K2 h)
theorem bL_law_265 {I : Nat → Nat → Int32} {L : Nat → Int64} {Q : Option Value → (Nat → Nat → Int32) → (Nat → Int64) → Prop} {Ln : Nat} {xs : Nat → Int32} {v3 : Int32} {v4 : Int32} {v5 : Int32}  (K : XS mL_part 0 [(0, .int (v5 >>> ((12 : Int32) &&& 31))), (1, .int (3 : Int32))] [] I L (fun r I' L' => XT (50, 1188) Ln xs mL_law 274 [(0, .ref 1000020), (1, .ref 0), (2, .ref 49), (3, .int v3), (4, .int v4)] (r.toList ++ []) I' L' Q)) : XT (50, 1188) Ln xs mL_law 265 [(0, .ref 1000020), (1, .ref 0), (2, .ref 49), (3, .int v3), (4, .int v4), (5, .int v5)] [] I L Q := by
  refine x_iload 5 dL_law_265 rfl ?_
  refine x_bipush (v := (12 : Int32)) dL_law_267 (by decide) ?_
  refine x_ishr dL_law_269 ?_
  refine x_iconst (v := (3 : Int32)) dL_law_270 (by decide) ?_
  refine x_sub [0, 1, 2, 3, 4] rfl ?_
  exact xt_callS mL_part [.int (v5 >>> ((12 : Int32) &&& 31)), .int (3 : Int32)] [] 2 _ rfl dL_law_271 ml_L_15 qL_part rfl ⟨Nat.le_of_ble_eq_true rfl, Nat.le_of_ble_eq_true rfl⟩ ⟨Nat.le_of_ble_eq_true rfl, Nat.le_of_ble_eq_true rfl⟩ ⟨rfl, rfl⟩ (Nat.le_of_ble_eq_true rfl) (Nat.le_of_ble_eq_true rfl) (K)
theorem bL_law_274 {I : Nat → Nat → Int32} {L : Nat → Int64} {Q : Option Value → (Nat → Nat → Int32) → (Nat → Int64) → Prop} {Ln : Nat} {xs : Nat → Int32} {v3 : Int32} {v4 : Int32} {s0 : Int32}  (K1 : (¬ s0 = 0) → XT (50, 1188) Ln xs mL_law 484 [(0, .ref 1000020), (1, .ref 0), (2, .ref 49), (3, .int v3), (4, .int v4)] [] I L Q) (K2 : (s0 = 0) → XT (50, 1188) Ln xs mL_law 277 [(0, .ref 1000020), (1, .ref 0), (2, .ref 49), (3, .int v3), (4, .int v4)] [] I L Q) : XT (50, 1188) Ln xs mL_law 274 [(0, .ref 1000020), (1, .ref 0), (2, .ref 49), (3, .int v3), (4, .int v4)] [.int s0] I L Q := by
  exact x_if_ne 484 dL_law_274 (by decide) (fun h => K1 h) (fun h => K2 h)
theorem bL_law_277 {I : Nat → Nat → Int32} {L : Nat → Int64} {Q : Option Value → (Nat → Nat → Int32) → (Nat → Int64) → Prop} {Ln : Nat} {xs : Nat → Int32} {v3 : Int32} {v4 : Int32}  (K : XS mX9_untrace 0 [(0, .ref 0)] [] I L (fun r I' L' => XT (50, 1188) Ln xs mL_law 281 [(0, .ref 1000020), (1, .ref 0), (2, .ref 49), (3, .int v3), (4, .int v4)] (r.toList ++ []) I' L' Q)) : XT (50, 1188) Ln xs mL_law 277 [(0, .ref 1000020), (1, .ref 0), (2, .ref 49), (3, .int v3), (4, .int v4)] [] I L Q := by
  refine x_aload_n 1 dL_law_277 rfl rfl ?_
  exact xt_callV mX9_untrace [] [] 0 9 0 _ rfl dL_law_278 ml_L_147 qX9_untrace rfl ⟨Nat.le_of_ble_eq_true rfl, Nat.le_of_ble_eq_true rfl⟩ ⟨Nat.le_of_ble_eq_true rfl, Nat.le_of_ble_eq_true rfl⟩ ⟨rfl, rfl⟩ (Nat.le_of_ble_eq_true rfl) sh_0 (by decide) rfl (Nat.le_of_ble_eq_true rfl) (K)
theorem bL_law_281 {I : Nat → Nat → Int32} {L : Nat → Int64} {Q : Option Value → (Nat → Nat → Int32) → (Nat → Int64) → Prop} {Ln : Nat} {xs : Nat → Int32} {v3 : Int32} {v4 : Int32} {s0 : Int32}  (K1 : ((1 : Int32) ≤ s0) → XT (50, 1188) Ln xs mL_law 484 [(0, .ref 1000020), (1, .ref 0), (2, .ref 49), (3, .int v3), (4, .int v4)] [] I L Q) (K2 : (¬ (1 : Int32) ≤ s0) → XT (50, 1188) Ln xs mL_law 285 [] [] I L Q) : XT (50, 1188) Ln xs mL_law 281 [(0, .ref 1000020), (1, .ref 0), (2, .ref 49), (3, .int v3), (4, .int v4)] [.int s0] I L Q := by
  refine x_iconst (v := (1 : Int32)) dL_law_281 (by decide) ?_
  exact x_icmp_ge 484 dL_law_282 (by decide) (fun h => K1 h) (fun h => x_sub [] rfl (K2 h))
theorem bL_law_285 {I : Nat → Nat → Int32} {L : Nat → Int64} {Q : Option Value → (Nat → Nat → Int32) → (Nat → Int64) → Prop} {Ln : Nat} {xs : Nat → Int32}   (K : Q (some (.int (0 : Int32))) I L) : XT (50, 1188) Ln xs mL_law 285 [] [] I L Q := by
  refine x_iconst (v := (0 : Int32)) dL_law_285 (by decide) ?_
  exact xt_iret dL_law_286 rfl (x_nar _ (Or.inl rfl)) K
theorem bL_law_287 {I : Nat → Nat → Int32} {L : Nat → Int64} {Q : Option Value → (Nat → Nat → Int32) → (Nat → Int64) → Prop} {Ln : Nat} {xs : Nat → Int32} {v3 : Int32} {v4 : Int32} {v5 : Int32} {v6 : Int64} {v8 : Int32} {v10 : Int32} {v11 : Int32}  (K1 : (¬ v10 = (3 : Int32)) → XT (50, 1188) Ln xs mL_law 302 [(0, .ref 1000020), (1, .ref 0), (2, .ref 49), (3, .int v3), (4, .int v4), (5, .int v5), (6, .long v6), (8, .int v8), (10, .int v10), (11, .int v11)] [] I L Q) (K2 : (v10 = (3 : Int32)) → XT (50, 1188) Ln xs mL_law 293 [(0, .ref 1000020), (1, .ref 0), (2, .ref 49), (3, .int v3), (4, .int v4), (5, .int v5), (6, .long v6), (10, .int v10), (11, .int v11)] [] I L Q) : XT (50, 1188) Ln xs mL_law 287 [(0, .ref 1000020), (1, .ref 0), (2, .ref 49), (3, .int v3), (4, .int v4), (5, .int v5), (6, .long v6), (8, .int v8), (10, .int v10), (11, .int v11)] [] I L Q := by
  refine x_iload 8 dL_law_287 rfl ?_
  refine x_iconst (v := (3 : Int32)) dL_law_289 (by decide) ?_
  exact x_icmp_ne 302 dL_law_290 (by decide) (fun h => K1 h) (fun h => x_sub [0, 1, 2, 3, 4, 5, 6, 8, 9] rfl (K2 h))
theorem bL_law_293 {I : Nat → Nat → Int32} {L : Nat → Int64} {Q : Option Value → (Nat → Nat → Int32) → (Nat → Int64) → Prop} {Ln : Nat} {xs : Nat → Int32} {v3 : Int32} {v4 : Int32} {v5 : Int32} {v6 : Int64} {v10 : Int32} {v11 : Int32}  (K : XS mX9_fail 0 [(0, .ref 0), (1, .int v11)] [] I L (fun r I' L' => XT (50, 1188) Ln xs mL_law 299 [(0, .ref 1000020), (1, .ref 0), (2, .ref 49), (3, .int v3), (4, .int v4), (5, .int v5), (6, .long v6), (10, .int v10)] (r.toList ++ []) I' L' Q)) : XT (50, 1188) Ln xs mL_law 293 [(0, .ref 1000020), (1, .ref 0), (2, .ref 49), (3, .int v3), (4, .int v4), (5, .int v5), (6, .long v6), (10, .int v10), (11, .int v11)] [] I L Q := by
  refine x_aload_n 1 dL_law_293 rfl rfl ?_
  refine x_iload 8 dL_law_294 rfl ?_
  refine x_sub [0, 1, 2, 3, 4, 5, 6, 7] rfl ?_
  exact xt_callV mX9_fail [.int v11] [] 0 9 1 _ rfl dL_law_296 ml_L_72 qX9_fail rfl ⟨Nat.le_of_ble_eq_true rfl, Nat.le_of_ble_eq_true rfl⟩ ⟨Nat.le_of_ble_eq_true rfl, Nat.le_of_ble_eq_true rfl⟩ ⟨rfl, rfl⟩ (Nat.le_of_ble_eq_true rfl) sh_0 (by decide) rfl (Nat.le_of_ble_eq_true rfl) (K)
theorem bL_law_299 {I : Nat → Nat → Int32} {L : Nat → Int64} {Q : Option Value → (Nat → Nat → Int32) → (Nat → Int64) → Prop} {Ln : Nat} {xs : Nat → Int32} {v3 : Int32} {v4 : Int32} {v5 : Int32} {v6 : Int64} {v10 : Int32} {s0 : Int32}  (K : XT (50, 1188) Ln xs mL_law 381 [(0, .ref 1000020), (1, .ref 0), (2, .ref 49), (3, .int v3), (4, .int v4), (5, .int v5), (6, .long v6), (10, .int v10)] [.int s0] I L Q) : XT (50, 1188) Ln xs mL_law 299 [(0, .ref 1000020), (1, .ref 0), (2, .ref 49), (3, .int v3), (4, .int v4), (5, .int v5), (6, .long v6), (10, .int v10)] [.int s0] I L Q := by
  exact x_goto 381 dL_law_299 (by decide) (K)
theorem bL_law_302 {I : Nat → Nat → Int32} {L : Nat → Int64} {Q : Option Value → (Nat → Nat → Int32) → (Nat → Int64) → Prop} {Ln : Nat} {xs : Nat → Int32} {v3 : Int32} {v4 : Int32} {v5 : Int32} {v6 : Int64} {v8 : Int32} {v10 : Int32} {v11 : Int32}  (K1 : (¬ v10 = (4 : Int32)) → XT (50, 1188) Ln xs mL_law 317 [(0, .ref 1000020), (1, .ref 0), (2, .ref 49), (3, .int v3), (4, .int v4), (5, .int v5), (6, .long v6), (8, .int v8), (10, .int v10), (11, .int v11)] [] I L Q) (K2 : (v10 = (4 : Int32)) → XT (50, 1188) Ln xs mL_law 308 [(0, .ref 1000020), (1, .ref 0), (2, .ref 49), (3, .int v3), (4, .int v4), (5, .int v5), (6, .long v6), (10, .int v10), (11, .int v11)] [] I L Q) : XT (50, 1188) Ln xs mL_law 302 [(0, .ref 1000020), (1, .ref 0), (2, .ref 49), (3, .int v3), (4, .int v4), (5, .int v5), (6, .long v6), (8, .int v8), (10, .int v10), (11, .int v11)] [] I L Q := by
  refine x_iload 8 dL_law_302 rfl ?_
  refine x_iconst (v := (4 : Int32)) dL_law_304 (by decide) ?_
  exact x_icmp_ne 317 dL_law_305 (by decide) (fun h => K1 h) (fun h => x_sub [0, 1, 2, 3, 4, 5, 6, 8, 9] rfl (K2 h))
theorem bL_law_308 {I : Nat → Nat → Int32} {L : Nat → Int64} {Q : Option Value → (Nat → Nat → Int32) → (Nat → Int64) → Prop} {Ln : Nat} {xs : Nat → Int32} {v3 : Int32} {v4 : Int32} {v5 : Int32} {v6 : Int64} {v10 : Int32} {v11 : Int32}  (K : XS mX9_heal 0 [(0, .ref 0), (1, .int v11)] [] I L (fun r I' L' => XT (50, 1188) Ln xs mL_law 314 [(0, .ref 1000020), (1, .ref 0), (2, .ref 49), (3, .int v3), (4, .int v4), (5, .int v5), (6, .long v6), (10, .int v10)] (r.toList ++ []) I' L' Q)) : XT (50, 1188) Ln xs mL_law 308 [(0, .ref 1000020), (1, .ref 0), (2, .ref 49), (3, .int v3), (4, .int v4), (5, .int v5), (6, .long v6), (10, .int v10), (11, .int v11)] [] I L Q := by
  refine x_aload_n 1 dL_law_308 rfl rfl ?_
  refine x_iload 8 dL_law_309 rfl ?_
  refine x_sub [0, 1, 2, 3, 4, 5, 6, 7] rfl ?_
  exact xt_callV mX9_heal [.int v11] [] 0 9 1 _ rfl dL_law_311 ml_L_75 qX9_heal rfl ⟨Nat.le_of_ble_eq_true rfl, Nat.le_of_ble_eq_true rfl⟩ ⟨Nat.le_of_ble_eq_true rfl, Nat.le_of_ble_eq_true rfl⟩ ⟨rfl, rfl⟩ (Nat.le_of_ble_eq_true rfl) sh_0 (by decide) rfl (Nat.le_of_ble_eq_true rfl) (K)
theorem bL_law_314 {I : Nat → Nat → Int32} {L : Nat → Int64} {Q : Option Value → (Nat → Nat → Int32) → (Nat → Int64) → Prop} {Ln : Nat} {xs : Nat → Int32} {v3 : Int32} {v4 : Int32} {v5 : Int32} {v6 : Int64} {v10 : Int32} {s0 : Int32}  (K : XT (50, 1188) Ln xs mL_law 381 [(0, .ref 1000020), (1, .ref 0), (2, .ref 49), (3, .int v3), (4, .int v4), (5, .int v5), (6, .long v6), (10, .int v10)] [.int s0] I L Q) : XT (50, 1188) Ln xs mL_law 314 [(0, .ref 1000020), (1, .ref 0), (2, .ref 49), (3, .int v3), (4, .int v4), (5, .int v5), (6, .long v6), (10, .int v10)] [.int s0] I L Q := by
  exact x_goto 381 dL_law_314 (by decide) (K)
theorem bL_law_317 {I : Nat → Nat → Int32} {L : Nat → Int64} {Q : Option Value → (Nat → Nat → Int32) → (Nat → Int64) → Prop} {Ln : Nat} {xs : Nat → Int32} {v3 : Int32} {v4 : Int32} {v5 : Int32} {v6 : Int64} {v8 : Int32} {v10 : Int32} {v11 : Int32}  (K1 : (¬ v10 = (5 : Int32)) → XT (50, 1188) Ln xs mL_law 354 [(0, .ref 1000020), (1, .ref 0), (2, .ref 49), (3, .int v3), (4, .int v4), (5, .int v5), (6, .long v6), (8, .int v8), (10, .int v10)] [] I L Q) (K2 : (v10 = (5 : Int32)) → XT (50, 1188) Ln xs mL_law 323 [(0, .ref 1000020), (1, .ref 0), (2, .ref 49), (3, .int v3), (4, .int v4), (5, .int v5), (6, .long v6), (10, .int v10), (11, .int v11)] [] I L Q) : XT (50, 1188) Ln xs mL_law 317 [(0, .ref 1000020), (1, .ref 0), (2, .ref 49), (3, .int v3), (4, .int v4), (5, .int v5), (6, .long v6), (8, .int v8), (10, .int v10), (11, .int v11)] [] I L Q := by
  refine x_iload 8 dL_law_317 rfl ?_
  refine x_iconst (v := (5 : Int32)) dL_law_319 (by decide) ?_
  exact x_icmp_ne 354 dL_law_320 (by decide) (fun h => x_sub [0, 1, 2, 3, 4, 5, 6, 7, 8] rfl (K1 h)) (fun h => x_sub [0, 1, 2, 3, 4, 5, 6, 8, 9] rfl (K2 h))
theorem bL_law_323 {I : Nat → Nat → Int32} {L : Nat → Int64} {Q : Option Value → (Nat → Nat → Int32) → (Nat → Int64) → Prop} {Ln : Nat} {xs : Nat → Int32} {v3 : Int32} {v4 : Int32} {v5 : Int32} {v6 : Int64} {v10 : Int32} {v11 : Int32}  (K : XS mL_part 0 [(0, .int (v5 >>> ((13 : Int32) &&& 31))), (1, .int (10 : Int32))] [] I L (fun r I' L' => XT (50, 1188) Ln xs mL_law 336 [(0, .ref 1000020), (1, .ref 0), (2, .ref 49), (3, .int v3), (4, .int v4), (5, .int v5), (6, .long v6), (10, .int v10)] (r.toList ++ [.int v11, .ref 0]) I' L' Q)) : XT (50, 1188) Ln xs mL_law 323 [(0, .ref 1000020), (1, .ref 0), (2, .ref 49), (3, .int v3), (4, .int v4), (5, .int v5), (6, .long v6), (10, .int v10), (11, .int v11)] [] I L Q := by
  refine x_aload_n 1 dL_law_323 rfl rfl ?_
  refine x_iload 8 dL_law_324 rfl ?_
  refine x_iload 5 dL_law_326 rfl ?_
  refine x_bipush (v := (13 : Int32)) dL_law_328 (by decide) ?_
  refine x_ishr dL_law_330 ?_
  refine x_bipush (v := (10 : Int32)) dL_law_331 (by decide) ?_
  refine x_sub [0, 1, 2, 3, 4, 5, 6, 7] rfl ?_
  exact xt_callS mL_part [.int (v5 >>> ((13 : Int32) &&& 31)), .int (10 : Int32)] [.int v11, .ref 0] 2 _ rfl dL_law_333 ml_L_15 qL_part rfl ⟨Nat.le_of_ble_eq_true rfl, Nat.le_of_ble_eq_true rfl⟩ ⟨Nat.le_of_ble_eq_true rfl, Nat.le_of_ble_eq_true rfl⟩ ⟨rfl, rfl⟩ (Nat.le_of_ble_eq_true rfl) (Nat.le_of_ble_eq_true rfl) (K)
theorem bL_law_336 {I : Nat → Nat → Int32} {L : Nat → Int64} {Q : Option Value → (Nat → Nat → Int32) → (Nat → Int64) → Prop} {Ln : Nat} {xs : Nat → Int32} {v3 : Int32} {v4 : Int32} {v5 : Int32} {v6 : Int64} {v10 : Int32} {s1 : Int32} {s2 : Int32}  (K : XS mL_part 0 [(0, .int (v5 >>> ((17 : Int32) &&& 31))), (1, .int (9 : Int32))] [] I L (fun r I' L' => XT (50, 1188) Ln xs mL_law 347 [(0, .ref 1000020), (1, .ref 0), (2, .ref 49), (3, .int v3), (4, .int v4), (5, .int v5), (6, .long v6), (10, .int v10)] (r.toList ++ [.int (1 : Int32), .int s2, .int s1, .ref 0]) I' L' Q)) : XT (50, 1188) Ln xs mL_law 336 [(0, .ref 1000020), (1, .ref 0), (2, .ref 49), (3, .int v3), (4, .int v4), (5, .int v5), (6, .long v6), (10, .int v10)] [.int s2, .int s1, .ref 0] I L Q := by
  refine x_iconst (v := (1 : Int32)) dL_law_336 (by decide) ?_
  refine x_iload 5 dL_law_337 rfl ?_
  refine x_bipush (v := (17 : Int32)) dL_law_339 (by decide) ?_
  refine x_ishr dL_law_341 ?_
  refine x_bipush (v := (9 : Int32)) dL_law_342 (by decide) ?_
  exact xt_callS mL_part [.int (v5 >>> ((17 : Int32) &&& 31)), .int (9 : Int32)] [.int (1 : Int32), .int s2, .int s1, .ref 0] 2 _ rfl dL_law_344 ml_L_15 qL_part rfl ⟨Nat.le_of_ble_eq_true rfl, Nat.le_of_ble_eq_true rfl⟩ ⟨Nat.le_of_ble_eq_true rfl, Nat.le_of_ble_eq_true rfl⟩ ⟨rfl, rfl⟩ (Nat.le_of_ble_eq_true rfl) (Nat.le_of_ble_eq_true rfl) (K)
theorem bL_law_347 {I : Nat → Nat → Int32} {L : Nat → Int64} {Q : Option Value → (Nat → Nat → Int32) → (Nat → Int64) → Prop} {Ln : Nat} {xs : Nat → Int32} {v3 : Int32} {v4 : Int32} {v5 : Int32} {v6 : Int64} {v10 : Int32} {s1 : Int32} {s2 : Int32} {s3 : Int32} {s4 : Int32}  (K : XS mX9_tune 0 [(0, .ref 0), (1, .int s1), (2, .int s2), (3, .int (s3 + s4))] [] I L (fun r I' L' => XT (50, 1188) Ln xs mL_law 351 [(0, .ref 1000020), (1, .ref 0), (2, .ref 49), (3, .int v3), (4, .int v4), (5, .int v5), (6, .long v6), (10, .int v10)] (r.toList ++ []) I' L' Q)) : XT (50, 1188) Ln xs mL_law 347 [(0, .ref 1000020), (1, .ref 0), (2, .ref 49), (3, .int v3), (4, .int v4), (5, .int v5), (6, .long v6), (10, .int v10)] [.int s4, .int s3, .int s2, .int s1, .ref 0] I L Q := by
  refine x_iadd dL_law_347 ?_
  exact xt_callV mX9_tune [.int s1, .int s2, .int (s3 + s4)] [] 0 9 3 _ rfl dL_law_348 ml_L_78 qX9_tune rfl ⟨Nat.le_of_ble_eq_true rfl, Nat.le_of_ble_eq_true rfl⟩ ⟨Nat.le_of_ble_eq_true rfl, Nat.le_of_ble_eq_true rfl⟩ ⟨rfl, rfl⟩ (Nat.le_of_ble_eq_true rfl) sh_0 (by decide) rfl (Nat.le_of_ble_eq_true rfl) (K)
theorem bL_law_351 {I : Nat → Nat → Int32} {L : Nat → Int64} {Q : Option Value → (Nat → Nat → Int32) → (Nat → Int64) → Prop} {Ln : Nat} {xs : Nat → Int32} {v3 : Int32} {v4 : Int32} {v5 : Int32} {v6 : Int64} {v10 : Int32} {s0 : Int32}  (K : XT (50, 1188) Ln xs mL_law 381 [(0, .ref 1000020), (1, .ref 0), (2, .ref 49), (3, .int v3), (4, .int v4), (5, .int v5), (6, .long v6), (10, .int v10)] [.int s0] I L Q) : XT (50, 1188) Ln xs mL_law 351 [(0, .ref 1000020), (1, .ref 0), (2, .ref 49), (3, .int v3), (4, .int v4), (5, .int v5), (6, .long v6), (10, .int v10)] [.int s0] I L Q := by
  exact x_goto 381 dL_law_351 (by decide) (K)
theorem bL_law_354 {I : Nat → Nat → Int32} {L : Nat → Int64} {Q : Option Value → (Nat → Nat → Int32) → (Nat → Int64) → Prop} {Ln : Nat} {xs : Nat → Int32} {v3 : Int32} {v4 : Int32} {v5 : Int32} {v6 : Int64} {v8 : Int32} {v10 : Int32}  (K1 : (¬ v10 = (6 : Int32)) → XT (50, 1188) Ln xs mL_law 370 [(0, .ref 1000020), (1, .ref 0), (2, .ref 49), (3, .int v3), (4, .int v4), (5, .int v5), (6, .long v6), (10, .int v10)] [] I L Q) (K2 : (v10 = (6 : Int32)) → XT (50, 1188) Ln xs mL_law 361 [(0, .ref 1000020), (1, .ref 0), (2, .ref 49), (3, .int v3), (4, .int v4), (5, .int v5), (6, .long v6), (8, .int v8), (10, .int v10)] [] I L Q) : XT (50, 1188) Ln xs mL_law 354 [(0, .ref 1000020), (1, .ref 0), (2, .ref 49), (3, .int v3), (4, .int v4), (5, .int v5), (6, .long v6), (8, .int v8), (10, .int v10)] [] I L Q := by
  refine x_iload 8 dL_law_354 rfl ?_
  refine x_bipush (v := (6 : Int32)) dL_law_356 (by decide) ?_
  exact x_icmp_ne 370 dL_law_358 (by decide) (fun h => x_sub [0, 1, 2, 3, 4, 5, 6, 8] rfl (K1 h)) (fun h => K2 h)
theorem bL_law_361 {I : Nat → Nat → Int32} {L : Nat → Int64} {Q : Option Value → (Nat → Nat → Int32) → (Nat → Int64) → Prop} {Ln : Nat} {xs : Nat → Int32} {v3 : Int32} {v4 : Int32} {v5 : Int32} {v6 : Int64} {v8 : Int32} {v10 : Int32}  (K : XS mX9_learn 0 [(0, .ref 0), (1, .int v8)] [] I L (fun r I' L' => XT (50, 1188) Ln xs mL_law 367 [(0, .ref 1000020), (1, .ref 0), (2, .ref 49), (3, .int v3), (4, .int v4), (5, .int v5), (6, .long v6), (10, .int v10)] (r.toList ++ []) I' L' Q)) : XT (50, 1188) Ln xs mL_law 361 [(0, .ref 1000020), (1, .ref 0), (2, .ref 49), (3, .int v3), (4, .int v4), (5, .int v5), (6, .long v6), (8, .int v8), (10, .int v10)] [] I L Q := by
  refine x_aload_n 1 dL_law_361 rfl rfl ?_
  refine x_iload 7 dL_law_362 rfl ?_
  refine x_sub [0, 1, 2, 3, 4, 5, 6, 8] rfl ?_
  exact xt_callV mX9_learn [.int v8] [] 0 9 1 _ rfl dL_law_364 ml_L_82 qX9_learn rfl ⟨Nat.le_of_ble_eq_true rfl, Nat.le_of_ble_eq_true rfl⟩ ⟨Nat.le_of_ble_eq_true rfl, Nat.le_of_ble_eq_true rfl⟩ ⟨rfl, rfl⟩ (Nat.le_of_ble_eq_true rfl) sh_0 (by decide) rfl (Nat.le_of_ble_eq_true rfl) (K)
theorem bL_law_367 {I : Nat → Nat → Int32} {L : Nat → Int64} {Q : Option Value → (Nat → Nat → Int32) → (Nat → Int64) → Prop} {Ln : Nat} {xs : Nat → Int32} {v3 : Int32} {v4 : Int32} {v5 : Int32} {v6 : Int64} {v10 : Int32} {s0 : Int32}  (K : XT (50, 1188) Ln xs mL_law 381 [(0, .ref 1000020), (1, .ref 0), (2, .ref 49), (3, .int v3), (4, .int v4), (5, .int v5), (6, .long v6), (10, .int v10)] [.int s0] I L Q) : XT (50, 1188) Ln xs mL_law 367 [(0, .ref 1000020), (1, .ref 0), (2, .ref 49), (3, .int v3), (4, .int v4), (5, .int v5), (6, .long v6), (10, .int v10)] [.int s0] I L Q := by
  exact x_goto 381 dL_law_367 (by decide) (K)
theorem bL_law_370 {I : Nat → Nat → Int32} {L : Nat → Int64} {Q : Option Value → (Nat → Nat → Int32) → (Nat → Int64) → Prop} {Ln : Nat} {xs : Nat → Int32} {v3 : Int32} {v4 : Int32} {v5 : Int32} {v6 : Int64} {v10 : Int32}  (K : XS mX9_protect 0 [(0, .ref 0), (1, .int ((v5 >>> ((13 : Int32) &&& 31)) &&& (1 : Int32)))] [] I L (fun r I' L' => XT (50, 1188) Ln xs mL_law 381 [(0, .ref 1000020), (1, .ref 0), (2, .ref 49), (3, .int v3), (4, .int v4), (5, .int v5), (6, .long v6), (10, .int v10)] (r.toList ++ []) I' L' Q)) : XT (50, 1188) Ln xs mL_law 370 [(0, .ref 1000020), (1, .ref 0), (2, .ref 49), (3, .int v3), (4, .int v4), (5, .int v5), (6, .long v6), (10, .int v10)] [] I L Q := by
  refine x_aload_n 1 dL_law_370 rfl rfl ?_
  refine x_iload 5 dL_law_371 rfl ?_
  refine x_bipush (v := (13 : Int32)) dL_law_373 (by decide) ?_
  refine x_ishr dL_law_375 ?_
  refine x_iconst (v := (1 : Int32)) dL_law_376 (by decide) ?_
  refine x_iand dL_law_377 ?_
  exact xt_callV mX9_protect [.int ((v5 >>> ((13 : Int32) &&& 31)) &&& (1 : Int32))] [] 0 9 1 _ rfl dL_law_378 ml_L_113 qX9_protect rfl ⟨Nat.le_of_ble_eq_true rfl, Nat.le_of_ble_eq_true rfl⟩ ⟨Nat.le_of_ble_eq_true rfl, Nat.le_of_ble_eq_true rfl⟩ ⟨rfl, rfl⟩ (Nat.le_of_ble_eq_true rfl) sh_0 (by decide) rfl (Nat.le_of_ble_eq_true rfl) (K)
theorem bL_law_381 {I : Nat → Nat → Int32} {L : Nat → Int64} {Q : Option Value → (Nat → Nat → Int32) → (Nat → Int64) → Prop} {Ln : Nat} {xs : Nat → Int32} {v3 : Int32} {v4 : Int32} {v5 : Int32} {v6 : Int64} {v10 : Int32} {s0 : Int32}  (K1 : (¬ v10 = (7 : Int32)) → XT (50, 1188) Ln xs mL_law 393 [(0, .ref 1000020), (1, .ref 0), (2, .ref 49), (3, .int v3), (4, .int v4), (5, .int v5), (6, .long v6), (12, .int s0)] [] I L Q) (K2 : (v10 = (7 : Int32)) → XT (50, 1188) Ln xs mL_law 390 [(0, .ref 1000020), (1, .ref 0), (2, .ref 49), (3, .int v3), (4, .int v4)] [] I L Q) : XT (50, 1188) Ln xs mL_law 381 [(0, .ref 1000020), (1, .ref 0), (2, .ref 49), (3, .int v3), (4, .int v4), (5, .int v5), (6, .long v6), (10, .int v10)] [.int s0] I L Q := by
  refine x_istore [(0, .ref 1000020), (1, .ref 0), (2, .ref 49), (3, .int v3), (4, .int v4), (5, .int v5), (6, .long v6), (10, .int v10), (12, .int s0)] dL_law_381 (Nat.le_of_ble_eq_true rfl) rfl ?_
  refine x_iload 7 dL_law_383 rfl ?_
  refine x_bipush (v := (7 : Int32)) dL_law_385 (by decide) ?_
  exact x_icmp_ne 393 dL_law_387 (by decide) (fun h => x_sub [0, 1, 2, 3, 4, 5, 6, 8] rfl (K1 h)) (fun h => x_sub [0, 1, 2, 3, 4] rfl (K2 h))
theorem bL_law_390 {I : Nat → Nat → Int32} {L : Nat → Int64} {Q : Option Value → (Nat → Nat → Int32) → (Nat → Int64) → Prop} {Ln : Nat} {xs : Nat → Int32} {v3 : Int32} {v4 : Int32}  (K : XT (50, 1188) Ln xs mL_law 484 [(0, .ref 1000020), (1, .ref 0), (2, .ref 49), (3, .int v3), (4, .int v4)] [] I L Q) : XT (50, 1188) Ln xs mL_law 390 [(0, .ref 1000020), (1, .ref 0), (2, .ref 49), (3, .int v3), (4, .int v4)] [] I L Q := by
  exact x_goto 484 dL_law_390 (by decide) (K)
theorem bL_law_393 {I : Nat → Nat → Int32} {L : Nat → Int64} {Q : Option Value → (Nat → Nat → Int32) → (Nat → Int64) → Prop} {Ln : Nat} {xs : Nat → Int32} {v3 : Int32} {v4 : Int32} {v5 : Int32} {v6 : Int64} {v12 : Int32}  (K1 : (0 ≤ v12) → XT (50, 1188) Ln xs mL_law 402 [(0, .ref 1000020), (1, .ref 0), (2, .ref 49), (3, .int v3), (4, .int v4), (5, .int v5), (6, .long v6), (12, .int v12)] [] I L Q) (K2 : (¬ 0 ≤ v12) → XT (50, 1188) Ln xs mL_law 398 [(0, .ref 1000020), (1, .ref 0), (2, .ref 49), (3, .int v3), (4, .int v4), (5, .int v5), (6, .long v6), (12, .int v12)] [] I L Q) : XT (50, 1188) Ln xs mL_law 393 [(0, .ref 1000020), (1, .ref 0), (2, .ref 49), (3, .int v3), (4, .int v4), (5, .int v5), (6, .long v6), (12, .int v12)] [] I L Q := by
  refine x_iload 7 dL_law_393 rfl ?_
  exact x_if_ge 402 dL_law_395 (by decide) (fun h => K1 h) (fun h => K2 h)
theorem bL_law_398 {I : Nat → Nat → Int32} {L : Nat → Int64} {Q : Option Value → (Nat → Nat → Int32) → (Nat → Int64) → Prop} {Ln : Nat} {xs : Nat → Int32} {v3 : Int32} {v4 : Int32} {v5 : Int32} {v6 : Int64} {v12 : Int32}  (K : XT (50, 1188) Ln xs mL_law 416 [(0, .ref 1000020), (1, .ref 0), (2, .ref 49), (4, .int v4), (5, .int v5), (6, .long v6), (12, .int v12)] [.int v3] I L Q) : XT (50, 1188) Ln xs mL_law 398 [(0, .ref 1000020), (1, .ref 0), (2, .ref 49), (3, .int v3), (4, .int v4), (5, .int v5), (6, .long v6), (12, .int v12)] [] I L Q := by
  refine x_iload_n 3 dL_law_398 rfl rfl ?_
  exact x_goto 416 dL_law_399 (by decide) (x_sub [0, 1, 2, 4, 5, 6, 7] rfl (K))
theorem bL_law_402 {I : Nat → Nat → Int32} {L : Nat → Int64} {Q : Option Value → (Nat → Nat → Int32) → (Nat → Int64) → Prop} {Ln : Nat} {xs : Nat → Int32} {v3 : Int32} {v4 : Int32} {v5 : Int32} {v6 : Int64} {v12 : Int32}  (K1 : ((8 : Int32) ≤ v3) → XT (50, 1188) Ln xs mL_law 414 [(0, .ref 1000020), (1, .ref 0), (2, .ref 49), (4, .int v4), (5, .int v5), (6, .long v6), (12, .int v12)] [] I L Q) (K2 : (¬ (8 : Int32) ≤ v3) → XT (50, 1188) Ln xs mL_law 408 [(0, .ref 1000020), (1, .ref 0), (2, .ref 49), (3, .int v3), (4, .int v4), (5, .int v5), (6, .long v6), (12, .int v12)] [] I L Q) : XT (50, 1188) Ln xs mL_law 402 [(0, .ref 1000020), (1, .ref 0), (2, .ref 49), (3, .int v3), (4, .int v4), (5, .int v5), (6, .long v6), (12, .int v12)] [] I L Q := by
  refine x_iload_n 3 dL_law_402 rfl rfl ?_
  refine x_bipush (v := (8 : Int32)) dL_law_403 (by decide) ?_
  exact x_icmp_ge 414 dL_law_405 (by decide) (fun h => x_sub [0, 1, 2, 4, 5, 6, 7] rfl (K1 h)) (fun h => K2 h)
theorem bL_law_408 {I : Nat → Nat → Int32} {L : Nat → Int64} {Q : Option Value → (Nat → Nat → Int32) → (Nat → Int64) → Prop} {Ln : Nat} {xs : Nat → Int32} {v3 : Int32} {v4 : Int32} {v5 : Int32} {v6 : Int64} {v12 : Int32}  (K : XT (50, 1188) Ln xs mL_law 416 [(0, .ref 1000020), (1, .ref 0), (2, .ref 49), (4, .int v4), (5, .int v5), (6, .long v6), (12, .int v12)] [.int (v3 + (1 : Int32))] I L Q) : XT (50, 1188) Ln xs mL_law 408 [(0, .ref 1000020), (1, .ref 0), (2, .ref 49), (3, .int v3), (4, .int v4), (5, .int v5), (6, .long v6), (12, .int v12)] [] I L Q := by
  refine x_iload_n 3 dL_law_408 rfl rfl ?_
  refine x_iconst (v := (1 : Int32)) dL_law_409 (by decide) ?_
  refine x_iadd dL_law_410 ?_
  exact x_goto 416 dL_law_411 (by decide) (x_sub [0, 1, 2, 4, 5, 6, 7] rfl (K))
theorem bL_law_414 {I : Nat → Nat → Int32} {L : Nat → Int64} {Q : Option Value → (Nat → Nat → Int32) → (Nat → Int64) → Prop} {Ln : Nat} {xs : Nat → Int32} {v4 : Int32} {v5 : Int32} {v6 : Int64} {v12 : Int32}  (K : XT (50, 1188) Ln xs mL_law 416 [(0, .ref 1000020), (1, .ref 0), (2, .ref 49), (4, .int v4), (5, .int v5), (6, .long v6), (12, .int v12)] [.int (8 : Int32)] I L Q) : XT (50, 1188) Ln xs mL_law 414 [(0, .ref 1000020), (1, .ref 0), (2, .ref 49), (4, .int v4), (5, .int v5), (6, .long v6), (12, .int v12)] [] I L Q := by
  refine x_bipush (v := (8 : Int32)) dL_law_414 (by decide) ?_
  exact K
theorem bL_law_416 {I : Nat → Nat → Int32} {L : Nat → Int64} {Q : Option Value → (Nat → Nat → Int32) → (Nat → Int64) → Prop} {Ln : Nat} {xs : Nat → Int32} {v4 : Int32} {v5 : Int32} {v6 : Int64} {v12 : Int32} {s0 : Int32}  (K : XS mX9_count 0 [(0, .ref 0), (1, .int (11 : Int32))] [] I L (fun r I' L' => XT (50, 1188) Ln xs mL_law 423 [(0, .ref 1000020), (1, .ref 0), (2, .ref 49), (3, .int s0), (4, .int v4), (5, .int v5), (6, .long v6), (12, .int v12)] (r.toList ++ []) I' L' Q)) : XT (50, 1188) Ln xs mL_law 416 [(0, .ref 1000020), (1, .ref 0), (2, .ref 49), (4, .int v4), (5, .int v5), (6, .long v6), (12, .int v12)] [.int s0] I L Q := by
  refine x_istore_n [(0, .ref 1000020), (1, .ref 0), (2, .ref 49), (3, .int s0), (4, .int v4), (5, .int v5), (6, .long v6), (12, .int v12)] dL_law_416 rfl (Nat.le_of_ble_eq_true rfl) rfl ?_
  refine x_aload_n 1 dL_law_417 rfl rfl ?_
  refine x_bipush (v := (11 : Int32)) dL_law_418 (by decide) ?_
  exact xt_callV mX9_count [.int (11 : Int32)] [] 0 9 1 _ rfl dL_law_420 ml_L_39 qX9_count rfl ⟨Nat.le_of_ble_eq_true rfl, Nat.le_of_ble_eq_true rfl⟩ ⟨Nat.le_of_ble_eq_true rfl, Nat.le_of_ble_eq_true rfl⟩ ⟨rfl, rfl⟩ (Nat.le_of_ble_eq_true rfl) sh_0 (by decide) rfl (Nat.le_of_ble_eq_true rfl) (K)
theorem bL_law_423 {I : Nat → Nat → Int32} {L : Nat → Int64} {Q : Option Value → (Nat → Nat → Int32) → (Nat → Int64) → Prop} {Ln : Nat} {xs : Nat → Int32} {v3 : Int32} {v4 : Int32} {v5 : Int32} {v6 : Int64} {v12 : Int32} {s0 : Int32}  (K1 : (¬ s0 = v3) → XT (50, 1188) Ln xs mL_law 442 [] [] I L Q) (K2 : (s0 = v3) → XT (50, 1188) Ln xs mL_law 427 [(0, .ref 1000020), (1, .ref 0), (2, .ref 49), (3, .int v3), (4, .int v4), (5, .int v5), (6, .long v6), (12, .int v12)] [] I L Q) : XT (50, 1188) Ln xs mL_law 423 [(0, .ref 1000020), (1, .ref 0), (2, .ref 49), (3, .int v3), (4, .int v4), (5, .int v5), (6, .long v6), (12, .int v12)] [.int s0] I L Q := by
  refine x_iload_n 3 dL_law_423 rfl rfl ?_
  exact x_icmp_ne 442 dL_law_424 (by decide) (fun h => x_sub [] rfl (K1 h)) (fun h => K2 h)
theorem bL_law_427 {I : Nat → Nat → Int32} {L : Nat → Int64} {Q : Option Value → (Nat → Nat → Int32) → (Nat → Int64) → Prop} {Ln : Nat} {xs : Nat → Int32} {v3 : Int32} {v4 : Int32} {v5 : Int32} {v6 : Int64} {v12 : Int32}  (K1 : (0 ≤ v12) → XT (50, 1188) Ln xs mL_law 444 [(0, .ref 1000020), (1, .ref 0), (2, .ref 49), (3, .int v3), (4, .int v4), (5, .int v5), (6, .long v6), (12, .int v12)] [] I L Q) (K2 : (¬ 0 ≤ v12) → XT (50, 1188) Ln xs mL_law 432 [(0, .ref 1000020), (1, .ref 0), (2, .ref 49), (3, .int v3), (4, .int v4), (5, .int v5), (6, .long v6), (12, .int v12)] [] I L Q) : XT (50, 1188) Ln xs mL_law 427 [(0, .ref 1000020), (1, .ref 0), (2, .ref 49), (3, .int v3), (4, .int v4), (5, .int v5), (6, .long v6), (12, .int v12)] [] I L Q := by
  refine x_iload 7 dL_law_427 rfl ?_
  exact x_if_ge 444 dL_law_429 (by decide) (fun h => K1 h) (fun h => K2 h)
theorem bL_law_432 {I : Nat → Nat → Int32} {L : Nat → Int64} {Q : Option Value → (Nat → Nat → Int32) → (Nat → Int64) → Prop} {Ln : Nat} {xs : Nat → Int32} {v3 : Int32} {v4 : Int32} {v5 : Int32} {v6 : Int64} {v12 : Int32}  (K : XS mL_whole 0 [(0, .ref 0)] [] I L (fun r I' L' => XT (50, 1188) Ln xs mL_law 436 [(0, .ref 1000020), (1, .ref 0), (2, .ref 49), (3, .int v3), (4, .int v4), (5, .int v5), (6, .long v6), (12, .int v12)] (r.toList ++ []) I' L' Q)) : XT (50, 1188) Ln xs mL_law 432 [(0, .ref 1000020), (1, .ref 0), (2, .ref 49), (3, .int v3), (4, .int v4), (5, .int v5), (6, .long v6), (12, .int v12)] [] I L Q := by
  refine x_aload_n 1 dL_law_432 rfl rfl ?_
  exact xt_callS mL_whole [.ref 0] [] 1 _ rfl dL_law_433 ml_L_68 qL_whole rfl ⟨Nat.le_of_ble_eq_true rfl, Nat.le_of_ble_eq_true rfl⟩ ⟨Nat.le_of_ble_eq_true rfl, Nat.le_of_ble_eq_true rfl⟩ ⟨rfl, rfl⟩ (Nat.le_of_ble_eq_true rfl) (Nat.le_of_ble_eq_true rfl) (K)
theorem bL_law_436 {I : Nat → Nat → Int32} {L : Nat → Int64} {Q : Option Value → (Nat → Nat → Int32) → (Nat → Int64) → Prop} {Ln : Nat} {xs : Nat → Int32} {v3 : Int32} {v4 : Int32} {v5 : Int32} {v6 : Int64} {v12 : Int32} {s0 : Int64}  (K1 : ((lg_cmp s0 v6) = 0) → XT (50, 1188) Ln xs mL_law 444 [(0, .ref 1000020), (1, .ref 0), (2, .ref 49), (3, .int v3), (4, .int v4), (5, .int v5), (6, .long v6), (12, .int v12)] [] I L Q) (K2 : (¬ (lg_cmp s0 v6) = 0) → XT (50, 1188) Ln xs mL_law 442 [] [] I L Q) : XT (50, 1188) Ln xs mL_law 436 [(0, .ref 1000020), (1, .ref 0), (2, .ref 49), (3, .int v3), (4, .int v4), (5, .int v5), (6, .long v6), (12, .int v12)] [.long s0] I L Q := by
  refine x_lload 6 dL_law_436 rfl ?_
  refine x_lcmp dL_law_438 ?_
  exact x_if_eq 444 dL_law_439 (by decide) (fun h => K1 h) (fun h => x_sub [] rfl (K2 h))
theorem bL_law_442 {I : Nat → Nat → Int32} {L : Nat → Int64} {Q : Option Value → (Nat → Nat → Int32) → (Nat → Int64) → Prop} {Ln : Nat} {xs : Nat → Int32}   (K : Q (some (.int (0 : Int32))) I L) : XT (50, 1188) Ln xs mL_law 442 [] [] I L Q := by
  refine x_iconst (v := (0 : Int32)) dL_law_442 (by decide) ?_
  exact xt_iret dL_law_443 rfl (x_nar _ (Or.inl rfl)) K
theorem bL_law_444 {I : Nat → Nat → Int32} {L : Nat → Int64} {Q : Option Value → (Nat → Nat → Int32) → (Nat → Int64) → Prop} {Ln : Nat} {xs : Nat → Int32} {v3 : Int32} {v4 : Int32} {v5 : Int32} {v6 : Int64} {v12 : Int32}  (K1 : (v12 < 0) → XT (50, 1188) Ln xs mL_law 484 [(0, .ref 1000020), (1, .ref 0), (2, .ref 49), (3, .int v3), (4, .int v4)] [] I L Q) (K2 : (¬ v12 < 0) → XT (50, 1188) Ln xs mL_law 449 [(0, .ref 1000020), (1, .ref 0), (2, .ref 49), (3, .int v3), (4, .int v4), (5, .int v5), (6, .long v6)] [] I L Q) : XT (50, 1188) Ln xs mL_law 444 [(0, .ref 1000020), (1, .ref 0), (2, .ref 49), (3, .int v3), (4, .int v4), (5, .int v5), (6, .long v6), (12, .int v12)] [] I L Q := by
  refine x_iload 7 dL_law_444 rfl ?_
  exact x_if_lt 484 dL_law_446 (by decide) (fun h => x_sub [0, 1, 2, 3, 4] rfl (K1 h)) (fun h => x_sub [0, 1, 2, 3, 4, 5, 6] rfl (K2 h))
theorem bL_law_449 {I : Nat → Nat → Int32} {L : Nat → Int64} {Q : Option Value → (Nat → Nat → Int32) → (Nat → Int64) → Prop} {Ln : Nat} {xs : Nat → Int32} {v3 : Int32} {v4 : Int32} {v5 : Int32} {v6 : Int64}  (K : XS mL_part 0 [(0, .int (v5 >>> ((20 : Int32) &&& 31))), (1, .int (3 : Int32))] [] I L (fun r I' L' => XT (50, 1188) Ln xs mL_law 458 [(0, .ref 1000020), (1, .ref 0), (2, .ref 49), (3, .int v3), (4, .int v4), (6, .long v6)] (r.toList ++ []) I' L' Q)) : XT (50, 1188) Ln xs mL_law 449 [(0, .ref 1000020), (1, .ref 0), (2, .ref 49), (3, .int v3), (4, .int v4), (5, .int v5), (6, .long v6)] [] I L Q := by
  refine x_iload 5 dL_law_449 rfl ?_
  refine x_bipush (v := (20 : Int32)) dL_law_451 (by decide) ?_
  refine x_ishr dL_law_453 ?_
  refine x_iconst (v := (3 : Int32)) dL_law_454 (by decide) ?_
  refine x_sub [0, 1, 2, 3, 4, 6] rfl ?_
  exact xt_callS mL_part [.int (v5 >>> ((20 : Int32) &&& 31)), .int (3 : Int32)] [] 2 _ rfl dL_law_455 ml_L_15 qL_part rfl ⟨Nat.le_of_ble_eq_true rfl, Nat.le_of_ble_eq_true rfl⟩ ⟨Nat.le_of_ble_eq_true rfl, Nat.le_of_ble_eq_true rfl⟩ ⟨rfl, rfl⟩ (Nat.le_of_ble_eq_true rfl) (Nat.le_of_ble_eq_true rfl) (K)
theorem bL_law_458 {I : Nat → Nat → Int32} {L : Nat → Int64} {Q : Option Value → (Nat → Nat → Int32) → (Nat → Int64) → Prop} {Ln : Nat} {xs : Nat → Int32} {v3 : Int32} {v4 : Int32} {v6 : Int64} {s0 : Int32}  (K1 : (¬ s0 = 0) → XT (50, 1188) Ln xs mL_law 484 [(0, .ref 1000020), (1, .ref 0), (2, .ref 49), (3, .int v3), (4, .int v4)] [] I L Q) (K2 : (s0 = 0) → XT (50, 1188) Ln xs mL_law 461 [(0, .ref 1000020), (1, .ref 0), (2, .ref 49), (3, .int v3), (4, .int v4), (6, .long v6)] [] I L Q) : XT (50, 1188) Ln xs mL_law 458 [(0, .ref 1000020), (1, .ref 0), (2, .ref 49), (3, .int v3), (4, .int v4), (6, .long v6)] [.int s0] I L Q := by
  exact x_if_ne 484 dL_law_458 (by decide) (fun h => x_sub [0, 1, 2, 3, 4] rfl (K1 h)) (fun h => K2 h)
theorem bL_law_461 {I : Nat → Nat → Int32} {L : Nat → Int64} {Q : Option Value → (Nat → Nat → Int32) → (Nat → Int64) → Prop} {Ln : Nat} {xs : Nat → Int32} {v3 : Int32} {v4 : Int32} {v6 : Int64}  (K : XS mX9_undo 0 [(0, .ref 0)] [] I L (fun r I' L' => XT (50, 1188) Ln xs mL_law 468 [(0, .ref 1000020), (1, .ref 0), (2, .ref 49), (3, .int (v3 + (-1 : Int32))), (4, .int v4), (6, .long v6)] (r.toList ++ []) I' L' Q)) : XT (50, 1188) Ln xs mL_law 461 [(0, .ref 1000020), (1, .ref 0), (2, .ref 49), (3, .int v3), (4, .int v4), (6, .long v6)] [] I L Q := by
  refine x_iinc 3 (v3 + (-1 : Int32)) [(0, .ref 1000020), (1, .ref 0), (2, .ref 49), (3, .int (v3 + (-1 : Int32))), (4, .int v4), (6, .long v6)] dL_law_461 rfl rfl (Nat.le_of_ble_eq_true rfl) rfl ?_
  refine x_aload_n 1 dL_law_464 rfl rfl ?_
  exact xt_callV mX9_undo [] [] 0 9 0 _ rfl dL_law_465 ml_L_126 qX9_undo rfl ⟨Nat.le_of_ble_eq_true rfl, Nat.le_of_ble_eq_true rfl⟩ ⟨Nat.le_of_ble_eq_true rfl, Nat.le_of_ble_eq_true rfl⟩ ⟨rfl, rfl⟩ (Nat.le_of_ble_eq_true rfl) sh_0 (by decide) rfl (Nat.le_of_ble_eq_true rfl) (K)
theorem bL_law_468 {I : Nat → Nat → Int32} {L : Nat → Int64} {Q : Option Value → (Nat → Nat → Int32) → (Nat → Int64) → Prop} {Ln : Nat} {xs : Nat → Int32} {v3 : Int32} {v4 : Int32} {v6 : Int64} {s0 : Int32}  (K1 : (¬ s0 = v3) → XT (50, 1188) Ln xs mL_law 482 [] [] I L Q) (K2 : (s0 = v3) → XT (50, 1188) Ln xs mL_law 472 [(0, .ref 1000020), (1, .ref 0), (2, .ref 49), (3, .int v3), (4, .int v4), (6, .long v6)] [] I L Q) : XT (50, 1188) Ln xs mL_law 468 [(0, .ref 1000020), (1, .ref 0), (2, .ref 49), (3, .int v3), (4, .int v4), (6, .long v6)] [.int s0] I L Q := by
  refine x_iload_n 3 dL_law_468 rfl rfl ?_
  exact x_icmp_ne 482 dL_law_469 (by decide) (fun h => x_sub [] rfl (K1 h)) (fun h => K2 h)
theorem bL_law_472 {I : Nat → Nat → Int32} {L : Nat → Int64} {Q : Option Value → (Nat → Nat → Int32) → (Nat → Int64) → Prop} {Ln : Nat} {xs : Nat → Int32} {v3 : Int32} {v4 : Int32} {v6 : Int64}  (K : XS mL_whole 0 [(0, .ref 0)] [] I L (fun r I' L' => XT (50, 1188) Ln xs mL_law 476 [(0, .ref 1000020), (1, .ref 0), (2, .ref 49), (3, .int v3), (4, .int v4), (6, .long v6)] (r.toList ++ []) I' L' Q)) : XT (50, 1188) Ln xs mL_law 472 [(0, .ref 1000020), (1, .ref 0), (2, .ref 49), (3, .int v3), (4, .int v4), (6, .long v6)] [] I L Q := by
  refine x_aload_n 1 dL_law_472 rfl rfl ?_
  exact xt_callS mL_whole [.ref 0] [] 1 _ rfl dL_law_473 ml_L_68 qL_whole rfl ⟨Nat.le_of_ble_eq_true rfl, Nat.le_of_ble_eq_true rfl⟩ ⟨Nat.le_of_ble_eq_true rfl, Nat.le_of_ble_eq_true rfl⟩ ⟨rfl, rfl⟩ (Nat.le_of_ble_eq_true rfl) (Nat.le_of_ble_eq_true rfl) (K)
theorem bL_law_476 {I : Nat → Nat → Int32} {L : Nat → Int64} {Q : Option Value → (Nat → Nat → Int32) → (Nat → Int64) → Prop} {Ln : Nat} {xs : Nat → Int32} {v3 : Int32} {v4 : Int32} {v6 : Int64} {s0 : Int64}  (K1 : ((lg_cmp s0 v6) = 0) → XT (50, 1188) Ln xs mL_law 484 [(0, .ref 1000020), (1, .ref 0), (2, .ref 49), (3, .int v3), (4, .int v4)] [] I L Q) (K2 : (¬ (lg_cmp s0 v6) = 0) → XT (50, 1188) Ln xs mL_law 482 [] [] I L Q) : XT (50, 1188) Ln xs mL_law 476 [(0, .ref 1000020), (1, .ref 0), (2, .ref 49), (3, .int v3), (4, .int v4), (6, .long v6)] [.long s0] I L Q := by
  refine x_lload 5 dL_law_476 rfl ?_
  refine x_lcmp dL_law_478 ?_
  exact x_if_eq 484 dL_law_479 (by decide) (fun h => x_sub [0, 1, 2, 3, 4] rfl (K1 h)) (fun h => x_sub [] rfl (K2 h))
theorem bL_law_482 {I : Nat → Nat → Int32} {L : Nat → Int64} {Q : Option Value → (Nat → Nat → Int32) → (Nat → Int64) → Prop} {Ln : Nat} {xs : Nat → Int32}   (K : Q (some (.int (0 : Int32))) I L) : XT (50, 1188) Ln xs mL_law 482 [] [] I L Q := by
  refine x_iconst (v := (0 : Int32)) dL_law_482 (by decide) ?_
  exact xt_iret dL_law_483 rfl (x_nar _ (Or.inl rfl)) K
theorem bL_law_484 {I : Nat → Nat → Int32} {L : Nat → Int64} {Q : Option Value → (Nat → Nat → Int32) → (Nat → Int64) → Prop} {Ln : Nat} {xs : Nat → Int32} {v3 : Int32} {v4 : Int32}  (K : XT (50, 1188) Ln xs mL_law 69 [(0, .ref 1000020), (1, .ref 0), (2, .ref 49), (3, .int v3), (4, .int (v4 + (1 : Int32)))] [] I L Q) : XT (50, 1188) Ln xs mL_law 484 [(0, .ref 1000020), (1, .ref 0), (2, .ref 49), (3, .int v3), (4, .int v4)] [] I L Q := by
  refine x_iinc 4 (v4 + (1 : Int32)) [(0, .ref 1000020), (1, .ref 0), (2, .ref 49), (3, .int v3), (4, .int (v4 + (1 : Int32)))] dL_law_484 rfl rfl (Nat.le_of_ble_eq_true rfl) rfl ?_
  exact x_goto 69 dL_law_487 (by decide) (K)
theorem bL_law_490 {I : Nat → Nat → Int32} {L : Nat → Int64} {Q : Option Value → (Nat → Nat → Int32) → (Nat → Int64) → Prop} {Ln : Nat} {xs : Nat → Int32}   (K : XS mL_refused 0 [(0, .ref 0)] [] I L (fun r I' L' => XT (50, 1188) Ln xs mL_law 494 [(0, .ref 1000020), (1, .ref 0), (2, .ref 49)] (r.toList ++ []) I' L' Q)) : XT (50, 1188) Ln xs mL_law 490 [(0, .ref 1000020), (1, .ref 0), (2, .ref 49)] [] I L Q := by
  refine x_aload_n 1 dL_law_490 rfl rfl ?_
  exact xt_callS mL_refused [.ref 0] [] 1 _ rfl dL_law_491 ml_L_133 qL_refused rfl ⟨Nat.le_of_ble_eq_true rfl, Nat.le_of_ble_eq_true rfl⟩ ⟨Nat.le_of_ble_eq_true rfl, Nat.le_of_ble_eq_true rfl⟩ ⟨rfl, rfl⟩ (Nat.le_of_ble_eq_true rfl) (Nat.le_of_ble_eq_true rfl) (K)
theorem bL_law_494 {I : Nat → Nat → Int32} {L : Nat → Int64} {Q : Option Value → (Nat → Nat → Int32) → (Nat → Int64) → Prop} {Ln : Nat} {xs : Nat → Int32} {s0 : Int32}  (K1 : (s0 = 0) → XT (50, 1188) Ln xs mL_law 533 [] [] I L Q) (K2 : (¬ s0 = 0) → XT (50, 1188) Ln xs mL_law 497 [(0, .ref 1000020), (1, .ref 0), (2, .ref 49)] [] I L Q) : XT (50, 1188) Ln xs mL_law 494 [(0, .ref 1000020), (1, .ref 0), (2, .ref 49)] [.int s0] I L Q := by
  exact x_if_eq 533 dL_law_494 (by decide) (fun h => x_sub [] rfl (K1 h)) (fun h => K2 h)
theorem bL_law_497 {I : Nat → Nat → Int32} {L : Nat → Int64} {Q : Option Value → (Nat → Nat → Int32) → (Nat → Int64) → Prop} {Ln : Nat} {xs : Nat → Int32}   (K : XS mL_faults 0 [(0, .ref 0)] [] I L (fun r I' L' => XT (50, 1188) Ln xs mL_law 501 [(0, .ref 1000020), (1, .ref 0), (2, .ref 49)] (r.toList ++ []) I' L' Q)) : XT (50, 1188) Ln xs mL_law 497 [(0, .ref 1000020), (1, .ref 0), (2, .ref 49)] [] I L Q := by
  refine x_aload_n 1 dL_law_497 rfl rfl ?_
  exact xt_callS mL_faults [.ref 0] [] 1 _ rfl dL_law_498 ml_L_129 qL_faults rfl ⟨Nat.le_of_ble_eq_true rfl, Nat.le_of_ble_eq_true rfl⟩ ⟨Nat.le_of_ble_eq_true rfl, Nat.le_of_ble_eq_true rfl⟩ ⟨rfl, rfl⟩ (Nat.le_of_ble_eq_true rfl) (Nat.le_of_ble_eq_true rfl) (K)
theorem bL_law_501 {I : Nat → Nat → Int32} {L : Nat → Int64} {Q : Option Value → (Nat → Nat → Int32) → (Nat → Int64) → Prop} {Ln : Nat} {xs : Nat → Int32} {s0 : Int32}  (K1 : (s0 = 0) → XT (50, 1188) Ln xs mL_law 533 [] [] I L Q) (K2 : (¬ s0 = 0) → XT (50, 1188) Ln xs mL_law 504 [(0, .ref 1000020), (1, .ref 0), (2, .ref 49)] [] I L Q) : XT (50, 1188) Ln xs mL_law 501 [(0, .ref 1000020), (1, .ref 0), (2, .ref 49)] [.int s0] I L Q := by
  exact x_if_eq 533 dL_law_501 (by decide) (fun h => x_sub [] rfl (K1 h)) (fun h => K2 h)
theorem bL_law_504 {I : Nat → Nat → Int32} {L : Nat → Int64} {Q : Option Value → (Nat → Nat → Int32) → (Nat → Int64) → Prop} {Ln : Nat} {xs : Nat → Int32}   (K : XT (0, 0) Ln xs mL_cell 0 [(0, .ref 1000020), (1, .int (30 : Int32))] [] I L (fun r I' L' => XT (50, 1188) Ln xs mL_law 512 [(0, .ref 1000020), (1, .ref 0), (2, .ref 49)] (r.toList ++ [.ref 49, .ref 0]) I' L' Q)) : XT (50, 1188) Ln xs mL_law 504 [(0, .ref 1000020), (1, .ref 0), (2, .ref 49)] [] I L Q := by
  refine x_aload_n 1 dL_law_504 rfl rfl ?_
  refine x_aload_n 2 dL_law_505 rfl rfl ?_
  refine x_aload_n 0 dL_law_506 rfl rfl ?_
  refine x_bipush (v := (30 : Int32)) dL_law_507 (by decide) ?_
  exact xt_callSS mL_cell [.ref 1000020, .int (30 : Int32)] [.ref 49, .ref 0] 2 _ rfl dL_law_509 ml_L_9 qL_cell rfl ⟨Nat.le_of_ble_eq_true rfl, Nat.le_of_ble_eq_true rfl⟩ ⟨Nat.le_of_ble_eq_true rfl, Nat.le_of_ble_eq_true rfl⟩ ⟨rfl, rfl⟩ (Nat.le_of_ble_eq_true rfl) (Nat.le_of_ble_eq_true rfl) (K)
theorem bL_law_512 {I : Nat → Nat → Int32} {L : Nat → Int64} {Q : Option Value → (Nat → Nat → Int32) → (Nat → Int64) → Prop} {Ln : Nat} {xs : Nat → Int32} {s2 : Int32}  (K : XS mL_part 0 [(0, .int s2), (1, .int (I 3136 0))] [] I L (fun r I' L' => XT (50, 1188) Ln xs mL_law 518 [(0, .ref 1000020), (1, .ref 0), (2, .ref 49)] (r.toList ++ [.ref 49, .ref 0]) I' L' Q)) : XT (50, 1188) Ln xs mL_law 512 [(0, .ref 1000020), (1, .ref 0), (2, .ref 49)] [.int s2, .ref 49, .ref 0] I L Q := by
  refine x_aload_n 2 dL_law_512 rfl rfl ?_
  refine x_iconst (v := (0 : Int32)) dL_law_513 (by decide) ?_
  refine xt_iald 3136 (0) dL_law_514 sh_49 rfl (by decide) (x_vpin (by decide)) ?_
  exact xt_callS mL_part [.int s2, .int (I 3136 0)] [.ref 49, .ref 0] 2 _ rfl dL_law_515 ml_L_15 qL_part rfl ⟨Nat.le_of_ble_eq_true rfl, Nat.le_of_ble_eq_true rfl⟩ ⟨Nat.le_of_ble_eq_true rfl, Nat.le_of_ble_eq_true rfl⟩ ⟨rfl, rfl⟩ (Nat.le_of_ble_eq_true rfl) (Nat.le_of_ble_eq_true rfl) (K)
theorem bL_law_518 {I : Nat → Nat → Int32} {L : Nat → Int64} {Q : Option Value → (Nat → Nat → Int32) → (Nat → Int64) → Prop} {Ln : Nat} {xs : Nat → Int32} {s2 : Int32}  (K : XS mL_goes 0 [(0, .ref 0), (1, .ref 49), (2, .int s2)] [] I L (fun r I' L' => XT (50, 1188) Ln xs mL_law 521 [(0, .ref 1000020), (1, .ref 0), (2, .ref 49)] (r.toList ++ []) I' L' Q)) : XT (50, 1188) Ln xs mL_law 518 [(0, .ref 1000020), (1, .ref 0), (2, .ref 49)] [.int s2, .ref 49, .ref 0] I L Q := by
  exact xt_callS mL_goes [.ref 0, .ref 49, .int s2] [] 3 _ rfl dL_law_518 ml_L_143 qL_goes rfl ⟨Nat.le_of_ble_eq_true rfl, Nat.le_of_ble_eq_true rfl⟩ ⟨Nat.le_of_ble_eq_true rfl, Nat.le_of_ble_eq_true rfl⟩ ⟨rfl, rfl⟩ (Nat.le_of_ble_eq_true rfl) (Nat.le_of_ble_eq_true rfl) (K)
theorem bL_law_521 {I : Nat → Nat → Int32} {L : Nat → Int64} {Q : Option Value → (Nat → Nat → Int32) → (Nat → Int64) → Prop} {Ln : Nat} {xs : Nat → Int32} {s0 : Int32}  (K1 : (s0 = 0) → XT (50, 1188) Ln xs mL_law 533 [] [] I L Q) (K2 : (¬ s0 = 0) → XT (50, 1188) Ln xs mL_law 524 [(0, .ref 1000020), (1, .ref 0), (2, .ref 49)] [] I L Q) : XT (50, 1188) Ln xs mL_law 521 [(0, .ref 1000020), (1, .ref 0), (2, .ref 49)] [.int s0] I L Q := by
  exact x_if_eq 533 dL_law_521 (by decide) (fun h => x_sub [] rfl (K1 h)) (fun h => K2 h)
theorem bL_law_524 {I : Nat → Nat → Int32} {L : Nat → Int64} {Q : Option Value → (Nat → Nat → Int32) → (Nat → Int64) → Prop} {Ln : Nat} {xs : Nat → Int32}   (K : XS mL_goes 0 [(0, .ref 0), (1, .ref 49), (2, .int (0 : Int32))] [] I L (fun r I' L' => XT (50, 1188) Ln xs mL_law 530 [(0, .ref 1000020), (1, .ref 0), (2, .ref 49)] (r.toList ++ []) I' L' Q)) : XT (50, 1188) Ln xs mL_law 524 [(0, .ref 1000020), (1, .ref 0), (2, .ref 49)] [] I L Q := by
  refine x_aload_n 1 dL_law_524 rfl rfl ?_
  refine x_aload_n 2 dL_law_525 rfl rfl ?_
  refine x_iconst (v := (0 : Int32)) dL_law_526 (by decide) ?_
  exact xt_callS mL_goes [.ref 0, .ref 49, .int (0 : Int32)] [] 3 _ rfl dL_law_527 ml_L_143 qL_goes rfl ⟨Nat.le_of_ble_eq_true rfl, Nat.le_of_ble_eq_true rfl⟩ ⟨Nat.le_of_ble_eq_true rfl, Nat.le_of_ble_eq_true rfl⟩ ⟨rfl, rfl⟩ (Nat.le_of_ble_eq_true rfl) (Nat.le_of_ble_eq_true rfl) (K)
theorem bL_law_530 {I : Nat → Nat → Int32} {L : Nat → Int64} {Q : Option Value → (Nat → Nat → Int32) → (Nat → Int64) → Prop} {Ln : Nat} {xs : Nat → Int32} {s0 : Int32}  (K1 : (¬ s0 = 0) → XT (50, 1188) Ln xs mL_law 535 [(0, .ref 1000020), (1, .ref 0), (2, .ref 49)] [] I L Q) (K2 : (s0 = 0) → XT (50, 1188) Ln xs mL_law 533 [] [] I L Q) : XT (50, 1188) Ln xs mL_law 530 [(0, .ref 1000020), (1, .ref 0), (2, .ref 49)] [.int s0] I L Q := by
  exact x_if_ne 535 dL_law_530 (by decide) (fun h => K1 h) (fun h => x_sub [] rfl (K2 h))
theorem bL_law_533 {I : Nat → Nat → Int32} {L : Nat → Int64} {Q : Option Value → (Nat → Nat → Int32) → (Nat → Int64) → Prop} {Ln : Nat} {xs : Nat → Int32}   (K : Q (some (.int (0 : Int32))) I L) : XT (50, 1188) Ln xs mL_law 533 [] [] I L Q := by
  refine x_iconst (v := (0 : Int32)) dL_law_533 (by decide) ?_
  exact xt_iret dL_law_534 rfl (x_nar _ (Or.inl rfl)) K
theorem bL_law_535 {I : Nat → Nat → Int32} {L : Nat → Int64} {Q : Option Value → (Nat → Nat → Int32) → (Nat → Int64) → Prop} {Ln : Nat} {xs : Nat → Int32}   (K : XS mX9_order 0 [(0, .ref 0), (1, .int (-1 : Int32))] [] I L (fun r I' L' => XT (50, 1188) Ln xs mL_law 540 [(0, .ref 1000020), (1, .ref 0), (2, .ref 49)] (r.toList ++ []) I' L' Q)) : XT (50, 1188) Ln xs mL_law 535 [(0, .ref 1000020), (1, .ref 0), (2, .ref 49)] [] I L Q := by
  refine x_aload_n 1 dL_law_535 rfl rfl ?_
  refine x_iconst (v := (-1 : Int32)) dL_law_536 (by decide) ?_
  exact xt_callV mX9_order [.int (-1 : Int32)] [] 0 9 1 _ rfl dL_law_537 ml_L_100 qX9_order rfl ⟨Nat.le_of_ble_eq_true rfl, Nat.le_of_ble_eq_true rfl⟩ ⟨Nat.le_of_ble_eq_true rfl, Nat.le_of_ble_eq_true rfl⟩ ⟨rfl, rfl⟩ (Nat.le_of_ble_eq_true rfl) sh_0 (by decide) rfl (Nat.le_of_ble_eq_true rfl) (K)
theorem bL_law_540 {I : Nat → Nat → Int32} {L : Nat → Int64} {Q : Option Value → (Nat → Nat → Int32) → (Nat → Int64) → Prop} {Ln : Nat} {xs : Nat → Int32} {s0 : Int32}  (K : XT (50, 1188) Ln xs mL_law 545 [(0, .ref 1000020), (1, .ref 0), (2, .ref 49), (4, .int s0), (5, .int (0 : Int32))] [] I L Q) : XT (50, 1188) Ln xs mL_law 540 [(0, .ref 1000020), (1, .ref 0), (2, .ref 49)] [.int s0] I L Q := by
  refine x_istore [(0, .ref 1000020), (1, .ref 0), (2, .ref 49), (4, .int s0)] dL_law_540 (Nat.le_of_ble_eq_true rfl) rfl ?_
  refine x_iconst (v := (0 : Int32)) dL_law_542 (by decide) ?_
  refine x_istore [(0, .ref 1000020), (1, .ref 0), (2, .ref 49), (4, .int s0), (5, .int (0 : Int32))] dL_law_543 (Nat.le_of_ble_eq_true rfl) rfl ?_
  exact K
theorem bL_law_545 {I : Nat → Nat → Int32} {L : Nat → Int64} {Q : Option Value → (Nat → Nat → Int32) → (Nat → Int64) → Prop} {Ln : Nat} {xs : Nat → Int32} {v4 : Int32} {v5 : Int32}  (K1 : (v4 ≤ v5) → XT (50, 1188) Ln xs mL_law 628 [(0, .ref 1000020), (1, .ref 0), (2, .ref 49)] [] I L Q) (K2 : (¬ v4 ≤ v5) → XT (50, 1188) Ln xs mL_law 552 [(0, .ref 1000020), (1, .ref 0), (2, .ref 49), (4, .int v4), (5, .int v5)] [] I L Q) : XT (50, 1188) Ln xs mL_law 545 [(0, .ref 1000020), (1, .ref 0), (2, .ref 49), (4, .int v4), (5, .int v5)] [] I L Q := by
  refine x_iload 4 dL_law_545 rfl ?_
  refine x_iload 3 dL_law_547 rfl ?_
  exact x_icmp_ge 628 dL_law_549 (by decide) (fun h => x_sub [0, 1, 2] rfl (K1 h)) (fun h => K2 h)
theorem bL_law_552 {I : Nat → Nat → Int32} {L : Nat → Int64} {Q : Option Value → (Nat → Nat → Int32) → (Nat → Int64) → Prop} {Ln : Nat} {xs : Nat → Int32} {v4 : Int32} {v5 : Int32}  (K : XS mX9_order 0 [(0, .ref 0), (1, .int (0 : Int32))] [] I L (fun r I' L' => XT (50, 1188) Ln xs mL_law 558 [(0, .ref 1000020), (1, .ref 0), (2, .ref 49), (4, .int v4), (5, .int v5)] (r.toList ++ [.ref 0]) I' L' Q)) : XT (50, 1188) Ln xs mL_law 552 [(0, .ref 1000020), (1, .ref 0), (2, .ref 49), (4, .int v4), (5, .int v5)] [] I L Q := by
  refine x_aload_n 1 dL_law_552 rfl rfl ?_
  refine x_aload_n 1 dL_law_553 rfl rfl ?_
  refine x_iconst (v := (0 : Int32)) dL_law_554 (by decide) ?_
  exact xt_callV mX9_order [.int (0 : Int32)] [.ref 0] 0 9 1 _ rfl dL_law_555 ml_L_100 qX9_order rfl ⟨Nat.le_of_ble_eq_true rfl, Nat.le_of_ble_eq_true rfl⟩ ⟨Nat.le_of_ble_eq_true rfl, Nat.le_of_ble_eq_true rfl⟩ ⟨rfl, rfl⟩ (Nat.le_of_ble_eq_true rfl) sh_0 (by decide) rfl (Nat.le_of_ble_eq_true rfl) (K)
theorem bL_law_558 {I : Nat → Nat → Int32} {L : Nat → Int64} {Q : Option Value → (Nat → Nat → Int32) → (Nat → Int64) → Prop} {Ln : Nat} {xs : Nat → Int32} {v4 : Int32} {v5 : Int32} {s1 : Int32}  (K : XS mX9_safe 0 [(0, .ref 0), (1, .int s1)] [] I L (fun r I' L' => XT (50, 1188) Ln xs mL_law 561 [(0, .ref 1000020), (1, .ref 0), (2, .ref 49), (4, .int v4), (5, .int v5)] (r.toList ++ []) I' L' Q)) : XT (50, 1188) Ln xs mL_law 558 [(0, .ref 1000020), (1, .ref 0), (2, .ref 49), (4, .int v4), (5, .int v5)] [.int s1, .ref 0] I L Q := by
  exact xt_callV mX9_safe [.int s1] [] 0 9 1 _ rfl dL_law_558 ml_L_97 qX9_safe rfl ⟨Nat.le_of_ble_eq_true rfl, Nat.le_of_ble_eq_true rfl⟩ ⟨Nat.le_of_ble_eq_true rfl, Nat.le_of_ble_eq_true rfl⟩ ⟨rfl, rfl⟩ (Nat.le_of_ble_eq_true rfl) sh_0 (by decide) rfl (Nat.le_of_ble_eq_true rfl) (K)
theorem bL_law_561 {I : Nat → Nat → Int32} {L : Nat → Int64} {Q : Option Value → (Nat → Nat → Int32) → (Nat → Int64) → Prop} {Ln : Nat} {xs : Nat → Int32} {v4 : Int32} {v5 : Int32} {s0 : Int32}  (K1 : (¬ s0 = (1 : Int32)) → XT (50, 1188) Ln xs mL_law 592 [] [] I L Q) (K2 : (s0 = (1 : Int32)) → XT (50, 1188) Ln xs mL_law 565 [(0, .ref 1000020), (1, .ref 0), (2, .ref 49), (4, .int v4), (5, .int v5)] [] I L Q) : XT (50, 1188) Ln xs mL_law 561 [(0, .ref 1000020), (1, .ref 0), (2, .ref 49), (4, .int v4), (5, .int v5)] [.int s0] I L Q := by
  refine x_iconst (v := (1 : Int32)) dL_law_561 (by decide) ?_
  exact x_icmp_ne 592 dL_law_562 (by decide) (fun h => x_sub [] rfl (K1 h)) (fun h => K2 h)
theorem bL_law_565 {I : Nat → Nat → Int32} {L : Nat → Int64} {Q : Option Value → (Nat → Nat → Int32) → (Nat → Int64) → Prop} {Ln : Nat} {xs : Nat → Int32} {v4 : Int32} {v5 : Int32}  (K : XS mX9_order 0 [(0, .ref 0), (1, .int (0 : Int32))] [] I L (fun r I' L' => XT (50, 1188) Ln xs mL_law 571 [(0, .ref 1000020), (1, .ref 0), (2, .ref 49), (4, .int v4), (5, .int v5)] (r.toList ++ [.ref 0]) I' L' Q)) : XT (50, 1188) Ln xs mL_law 565 [(0, .ref 1000020), (1, .ref 0), (2, .ref 49), (4, .int v4), (5, .int v5)] [] I L Q := by
  refine x_aload_n 1 dL_law_565 rfl rfl ?_
  refine x_aload_n 1 dL_law_566 rfl rfl ?_
  refine x_iconst (v := (0 : Int32)) dL_law_567 (by decide) ?_
  exact xt_callV mX9_order [.int (0 : Int32)] [.ref 0] 0 9 1 _ rfl dL_law_568 ml_L_100 qX9_order rfl ⟨Nat.le_of_ble_eq_true rfl, Nat.le_of_ble_eq_true rfl⟩ ⟨Nat.le_of_ble_eq_true rfl, Nat.le_of_ble_eq_true rfl⟩ ⟨rfl, rfl⟩ (Nat.le_of_ble_eq_true rfl) sh_0 (by decide) rfl (Nat.le_of_ble_eq_true rfl) (K)
theorem bL_law_571 {I : Nat → Nat → Int32} {L : Nat → Int64} {Q : Option Value → (Nat → Nat → Int32) → (Nat → Int64) → Prop} {Ln : Nat} {xs : Nat → Int32} {v4 : Int32} {v5 : Int32} {s1 : Int32}  (K : XS mX9_learn 0 [(0, .ref 0), (1, .int s1)] [] I L (fun r I' L' => XT (50, 1188) Ln xs mL_law 574 [(0, .ref 1000020), (1, .ref 0), (2, .ref 49), (4, .int v4), (5, .int v5)] (r.toList ++ []) I' L' Q)) : XT (50, 1188) Ln xs mL_law 571 [(0, .ref 1000020), (1, .ref 0), (2, .ref 49), (4, .int v4), (5, .int v5)] [.int s1, .ref 0] I L Q := by
  exact xt_callV mX9_learn [.int s1] [] 0 9 1 _ rfl dL_law_571 ml_L_82 qX9_learn rfl ⟨Nat.le_of_ble_eq_true rfl, Nat.le_of_ble_eq_true rfl⟩ ⟨Nat.le_of_ble_eq_true rfl, Nat.le_of_ble_eq_true rfl⟩ ⟨rfl, rfl⟩ (Nat.le_of_ble_eq_true rfl) sh_0 (by decide) rfl (Nat.le_of_ble_eq_true rfl) (K)
theorem bL_law_574 {I : Nat → Nat → Int32} {L : Nat → Int64} {Q : Option Value → (Nat → Nat → Int32) → (Nat → Int64) → Prop} {Ln : Nat} {xs : Nat → Int32} {v4 : Int32} {v5 : Int32} {s0 : Int32}  (K1 : (s0 < 0) → XT (50, 1188) Ln xs mL_law 592 [] [] I L Q) (K2 : (¬ s0 < 0) → XT (50, 1188) Ln xs mL_law 577 [(0, .ref 1000020), (1, .ref 0), (2, .ref 49), (4, .int v4), (5, .int v5)] [] I L Q) : XT (50, 1188) Ln xs mL_law 574 [(0, .ref 1000020), (1, .ref 0), (2, .ref 49), (4, .int v4), (5, .int v5)] [.int s0] I L Q := by
  exact x_if_lt 592 dL_law_574 (by decide) (fun h => x_sub [] rfl (K1 h)) (fun h => K2 h)
theorem bL_law_577 {I : Nat → Nat → Int32} {L : Nat → Int64} {Q : Option Value → (Nat → Nat → Int32) → (Nat → Int64) → Prop} {Ln : Nat} {xs : Nat → Int32} {v4 : Int32} {v5 : Int32}  (K : XS mX9_order 0 [(0, .ref 0), (1, .int (-1 : Int32))] [] I L (fun r I' L' => XT (50, 1188) Ln xs mL_law 582 [(0, .ref 1000020), (1, .ref 0), (2, .ref 49), (4, .int v4), (5, .int v5)] (r.toList ++ []) I' L' Q)) : XT (50, 1188) Ln xs mL_law 577 [(0, .ref 1000020), (1, .ref 0), (2, .ref 49), (4, .int v4), (5, .int v5)] [] I L Q := by
  refine x_aload_n 1 dL_law_577 rfl rfl ?_
  refine x_iconst (v := (-1 : Int32)) dL_law_578 (by decide) ?_
  exact xt_callV mX9_order [.int (-1 : Int32)] [] 0 9 1 _ rfl dL_law_579 ml_L_100 qX9_order rfl ⟨Nat.le_of_ble_eq_true rfl, Nat.le_of_ble_eq_true rfl⟩ ⟨Nat.le_of_ble_eq_true rfl, Nat.le_of_ble_eq_true rfl⟩ ⟨rfl, rfl⟩ (Nat.le_of_ble_eq_true rfl) sh_0 (by decide) rfl (Nat.le_of_ble_eq_true rfl) (K)
theorem bL_law_582 {I : Nat → Nat → Int32} {L : Nat → Int64} {Q : Option Value → (Nat → Nat → Int32) → (Nat → Int64) → Prop} {Ln : Nat} {xs : Nat → Int32} {v4 : Int32} {v5 : Int32} {s0 : Int32}  (K1 : (s0 = ((v4 - (1 : Int32)) - v5)) → XT (50, 1188) Ln xs mL_law 594 [(0, .ref 1000020), (1, .ref 0), (2, .ref 49), (4, .int v4), (5, .int v5)] [] I L Q) (K2 : (¬ s0 = ((v4 - (1 : Int32)) - v5)) → XT (50, 1188) Ln xs mL_law 592 [] [] I L Q) : XT (50, 1188) Ln xs mL_law 582 [(0, .ref 1000020), (1, .ref 0), (2, .ref 49), (4, .int v4), (5, .int v5)] [.int s0] I L Q := by
  refine x_iload 3 dL_law_582 rfl ?_
  refine x_iconst (v := (1 : Int32)) dL_law_584 (by decide) ?_
  refine x_isub dL_law_585 ?_
  refine x_iload 4 dL_law_586 rfl ?_
  refine x_isub dL_law_588 ?_
  exact x_icmp_eq 594 dL_law_589 (by decide) (fun h => K1 h) (fun h => x_sub [] rfl (K2 h))
theorem bL_law_592 {I : Nat → Nat → Int32} {L : Nat → Int64} {Q : Option Value → (Nat → Nat → Int32) → (Nat → Int64) → Prop} {Ln : Nat} {xs : Nat → Int32}   (K : Q (some (.int (0 : Int32))) I L) : XT (50, 1188) Ln xs mL_law 592 [] [] I L Q := by
  refine x_iconst (v := (0 : Int32)) dL_law_592 (by decide) ?_
  exact xt_iret dL_law_593 rfl (x_nar _ (Or.inl rfl)) K
theorem bL_law_594 {I : Nat → Nat → Int32} {L : Nat → Int64} {Q : Option Value → (Nat → Nat → Int32) → (Nat → Int64) → Prop} {Ln : Nat} {xs : Nat → Int32} {v4 : Int32} {v5 : Int32}  (K : XT (50, 1188) Ln xs mL_law 597 [(0, .ref 1000020), (1, .ref 0), (2, .ref 49), (4, .int v4), (5, .int v5), (6, .int (0 : Int32))] [] I L Q) : XT (50, 1188) Ln xs mL_law 594 [(0, .ref 1000020), (1, .ref 0), (2, .ref 49), (4, .int v4), (5, .int v5)] [] I L Q := by
  refine x_iconst (v := (0 : Int32)) dL_law_594 (by decide) ?_
  refine x_istore [(0, .ref 1000020), (1, .ref 0), (2, .ref 49), (4, .int v4), (5, .int v5), (6, .int (0 : Int32))] dL_law_595 (Nat.le_of_ble_eq_true rfl) rfl ?_
  exact K
theorem bL_law_597 {I : Nat → Nat → Int32} {L : Nat → Int64} {Q : Option Value → (Nat → Nat → Int32) → (Nat → Int64) → Prop} {Ln : Nat} {xs : Nat → Int32} {v4 : Int32} {v5 : Int32} {v6 : Int32}  (K1 : ((I 3136 0) ≤ v6) → XT (50, 1188) Ln xs mL_law 622 [(0, .ref 1000020), (1, .ref 0), (2, .ref 49), (4, .int v4), (5, .int v5)] [] I L Q) (K2 : (¬ (I 3136 0) ≤ v6) → XT (50, 1188) Ln xs mL_law 605 [(0, .ref 1000020), (1, .ref 0), (2, .ref 49), (4, .int v4), (5, .int v5), (6, .int v6)] [] I L Q) : XT (50, 1188) Ln xs mL_law 597 [(0, .ref 1000020), (1, .ref 0), (2, .ref 49), (4, .int v4), (5, .int v5), (6, .int v6)] [] I L Q := by
  refine x_iload 5 dL_law_597 rfl ?_
  refine x_aload_n 2 dL_law_599 rfl rfl ?_
  refine x_iconst (v := (0 : Int32)) dL_law_600 (by decide) ?_
  refine xt_iald 3136 (0) dL_law_601 sh_49 rfl (by decide) (x_vpin (by decide)) ?_
  exact x_icmp_ge 622 dL_law_602 (by decide) (fun h => x_sub [0, 1, 2, 3, 4] rfl (K1 h)) (fun h => K2 h)
theorem bL_law_605 {I : Nat → Nat → Int32} {L : Nat → Int64} {Q : Option Value → (Nat → Nat → Int32) → (Nat → Int64) → Prop} {Ln : Nat} {xs : Nat → Int32} {v4 : Int32} {v5 : Int32} {v6 : Int32}  (K : XS mX9_rings 0 [(0, .ref 0), (1, .int v6)] [] I L (fun r I' L' => XT (50, 1188) Ln xs mL_law 611 [(0, .ref 1000020), (1, .ref 0), (2, .ref 49), (4, .int v4), (5, .int v5), (6, .int v6)] (r.toList ++ []) I' L' Q)) : XT (50, 1188) Ln xs mL_law 605 [(0, .ref 1000020), (1, .ref 0), (2, .ref 49), (4, .int v4), (5, .int v5), (6, .int v6)] [] I L Q := by
  refine x_aload_n 1 dL_law_605 rfl rfl ?_
  refine x_iload 5 dL_law_606 rfl ?_
  exact xt_callV mX9_rings [.int v6] [] 0 9 1 _ rfl dL_law_608 ml_L_94 qX9_rings rfl ⟨Nat.le_of_ble_eq_true rfl, Nat.le_of_ble_eq_true rfl⟩ ⟨Nat.le_of_ble_eq_true rfl, Nat.le_of_ble_eq_true rfl⟩ ⟨rfl, rfl⟩ (Nat.le_of_ble_eq_true rfl) sh_0 (by decide) rfl (Nat.le_of_ble_eq_true rfl) (K)
theorem bL_law_611 {I : Nat → Nat → Int32} {L : Nat → Int64} {Q : Option Value → (Nat → Nat → Int32) → (Nat → Int64) → Prop} {Ln : Nat} {xs : Nat → Int32} {v4 : Int32} {v5 : Int32} {v6 : Int32} {s0 : Int32}  (K1 : (s0 = 0) → XT (50, 1188) Ln xs mL_law 616 [(0, .ref 1000020), (1, .ref 0), (2, .ref 49), (4, .int v4), (5, .int v5), (6, .int v6)] [] I L Q) (K2 : (¬ s0 = 0) → XT (50, 1188) Ln xs mL_law 614 [] [] I L Q) : XT (50, 1188) Ln xs mL_law 611 [(0, .ref 1000020), (1, .ref 0), (2, .ref 49), (4, .int v4), (5, .int v5), (6, .int v6)] [.int s0] I L Q := by
  exact x_if_eq 616 dL_law_611 (by decide) (fun h => K1 h) (fun h => x_sub [] rfl (K2 h))
theorem bL_law_614 {I : Nat → Nat → Int32} {L : Nat → Int64} {Q : Option Value → (Nat → Nat → Int32) → (Nat → Int64) → Prop} {Ln : Nat} {xs : Nat → Int32}   (K : Q (some (.int (0 : Int32))) I L) : XT (50, 1188) Ln xs mL_law 614 [] [] I L Q := by
  refine x_iconst (v := (0 : Int32)) dL_law_614 (by decide) ?_
  exact xt_iret dL_law_615 rfl (x_nar _ (Or.inl rfl)) K
theorem bL_law_616 {I : Nat → Nat → Int32} {L : Nat → Int64} {Q : Option Value → (Nat → Nat → Int32) → (Nat → Int64) → Prop} {Ln : Nat} {xs : Nat → Int32} {v4 : Int32} {v5 : Int32} {v6 : Int32}  (K : XT (50, 1188) Ln xs mL_law 597 [(0, .ref 1000020), (1, .ref 0), (2, .ref 49), (4, .int v4), (5, .int v5), (6, .int (v6 + (1 : Int32)))] [] I L Q) : XT (50, 1188) Ln xs mL_law 616 [(0, .ref 1000020), (1, .ref 0), (2, .ref 49), (4, .int v4), (5, .int v5), (6, .int v6)] [] I L Q := by
  refine x_iinc 5 (v6 + (1 : Int32)) [(0, .ref 1000020), (1, .ref 0), (2, .ref 49), (4, .int v4), (5, .int v5), (6, .int (v6 + (1 : Int32)))] dL_law_616 rfl rfl (Nat.le_of_ble_eq_true rfl) rfl ?_
  exact x_goto 597 dL_law_619 (by decide) (K)
theorem bL_law_622 {I : Nat → Nat → Int32} {L : Nat → Int64} {Q : Option Value → (Nat → Nat → Int32) → (Nat → Int64) → Prop} {Ln : Nat} {xs : Nat → Int32} {v4 : Int32} {v5 : Int32}  (K : XT (50, 1188) Ln xs mL_law 545 [(0, .ref 1000020), (1, .ref 0), (2, .ref 49), (4, .int v4), (5, .int (v5 + (1 : Int32)))] [] I L Q) : XT (50, 1188) Ln xs mL_law 622 [(0, .ref 1000020), (1, .ref 0), (2, .ref 49), (4, .int v4), (5, .int v5)] [] I L Q := by
  refine x_iinc 4 (v5 + (1 : Int32)) [(0, .ref 1000020), (1, .ref 0), (2, .ref 49), (4, .int v4), (5, .int (v5 + (1 : Int32)))] dL_law_622 rfl rfl (Nat.le_of_ble_eq_true rfl) rfl ?_
  exact x_goto 545 dL_law_625 (by decide) (K)
theorem bL_law_628 {I : Nat → Nat → Int32} {L : Nat → Int64} {Q : Option Value → (Nat → Nat → Int32) → (Nat → Int64) → Prop} {Ln : Nat} {xs : Nat → Int32}   (K : XT (0, 0) Ln xs mL_cell 0 [(0, .ref 1000020), (1, .int (31 : Int32))] [] I L (fun r I' L' => XT (50, 1188) Ln xs mL_law 636 [(0, .ref 1000020), (1, .ref 0), (2, .ref 49)] (r.toList ++ [.ref 49, .ref 0]) I' L' Q)) : XT (50, 1188) Ln xs mL_law 628 [(0, .ref 1000020), (1, .ref 0), (2, .ref 49)] [] I L Q := by
  refine x_aload_n 1 dL_law_628 rfl rfl ?_
  refine x_aload_n 2 dL_law_629 rfl rfl ?_
  refine x_aload_n 0 dL_law_630 rfl rfl ?_
  refine x_bipush (v := (31 : Int32)) dL_law_631 (by decide) ?_
  exact xt_callSS mL_cell [.ref 1000020, .int (31 : Int32)] [.ref 49, .ref 0] 2 _ rfl dL_law_633 ml_L_9 qL_cell rfl ⟨Nat.le_of_ble_eq_true rfl, Nat.le_of_ble_eq_true rfl⟩ ⟨Nat.le_of_ble_eq_true rfl, Nat.le_of_ble_eq_true rfl⟩ ⟨rfl, rfl⟩ (Nat.le_of_ble_eq_true rfl) (Nat.le_of_ble_eq_true rfl) (K)
theorem bL_law_636 {I : Nat → Nat → Int32} {L : Nat → Int64} {Q : Option Value → (Nat → Nat → Int32) → (Nat → Int64) → Prop} {Ln : Nat} {xs : Nat → Int32} {s2 : Int32}  (K : XS mL_arrives 0 [(0, .ref 0), (1, .ref 49), (2, .int s2)] [] I L (fun r I' L' => XT (50, 1188) Ln xs mL_law 639 [(0, .ref 1000020), (1, .ref 0), (2, .ref 49)] (r.toList ++ []) I' L' Q)) : XT (50, 1188) Ln xs mL_law 636 [(0, .ref 1000020), (1, .ref 0), (2, .ref 49)] [.int s2, .ref 49, .ref 0] I L Q := by
  exact xt_callS mL_arrives [.ref 0, .ref 49, .int s2] [] 3 _ rfl dL_law_636 ml_L_150 qL_arrives rfl ⟨Nat.le_of_ble_eq_true rfl, Nat.le_of_ble_eq_true rfl⟩ ⟨Nat.le_of_ble_eq_true rfl, Nat.le_of_ble_eq_true rfl⟩ ⟨rfl, rfl⟩ (Nat.le_of_ble_eq_true rfl) (Nat.le_of_ble_eq_true rfl) (K)
theorem bL_law_639 {I : Nat → Nat → Int32} {L : Nat → Int64} {Q : Option Value → (Nat → Nat → Int32) → (Nat → Int64) → Prop} {Ln : Nat} {xs : Nat → Int32} {s0 : Int32}  (K1 : (s0 = 0) → XT (50, 1188) Ln xs mL_law 656 [] [] I L Q) (K2 : (¬ s0 = 0) → XT (50, 1188) Ln xs mL_law 642 [(0, .ref 1000020), (1, .ref 0), (2, .ref 49)] [] I L Q) : XT (50, 1188) Ln xs mL_law 639 [(0, .ref 1000020), (1, .ref 0), (2, .ref 49)] [.int s0] I L Q := by
  exact x_if_eq 656 dL_law_639 (by decide) (fun h => x_sub [] rfl (K1 h)) (fun h => K2 h)
theorem bL_law_642 {I : Nat → Nat → Int32} {L : Nat → Int64} {Q : Option Value → (Nat → Nat → Int32) → (Nat → Int64) → Prop} {Ln : Nat} {xs : Nat → Int32}   (K : XT (0, 0) Ln xs mL_cell 0 [(0, .ref 1000020), (1, .int (32 : Int32))] [] I L (fun r I' L' => XT (50, 1188) Ln xs mL_law 650 [(1, .ref 0), (2, .ref 49)] (r.toList ++ [.ref 49, .ref 0]) I' L' Q)) : XT (50, 1188) Ln xs mL_law 642 [(0, .ref 1000020), (1, .ref 0), (2, .ref 49)] [] I L Q := by
  refine x_aload_n 1 dL_law_642 rfl rfl ?_
  refine x_aload_n 2 dL_law_643 rfl rfl ?_
  refine x_aload_n 0 dL_law_644 rfl rfl ?_
  refine x_bipush (v := (32 : Int32)) dL_law_645 (by decide) ?_
  refine x_sub [1, 2] rfl ?_
  exact xt_callSS mL_cell [.ref 1000020, .int (32 : Int32)] [.ref 49, .ref 0] 2 _ rfl dL_law_647 ml_L_9 qL_cell rfl ⟨Nat.le_of_ble_eq_true rfl, Nat.le_of_ble_eq_true rfl⟩ ⟨Nat.le_of_ble_eq_true rfl, Nat.le_of_ble_eq_true rfl⟩ ⟨rfl, rfl⟩ (Nat.le_of_ble_eq_true rfl) (Nat.le_of_ble_eq_true rfl) (K)
theorem bL_law_650 {I : Nat → Nat → Int32} {L : Nat → Int64} {Q : Option Value → (Nat → Nat → Int32) → (Nat → Int64) → Prop} {Ln : Nat} {xs : Nat → Int32} {s2 : Int32}  (K : XS mL_arrives 0 [(0, .ref 0), (1, .ref 49), (2, .int s2)] [] I L (fun r I' L' => XT (50, 1188) Ln xs mL_law 653 [(1, .ref 0), (2, .ref 49)] (r.toList ++ []) I' L' Q)) : XT (50, 1188) Ln xs mL_law 650 [(1, .ref 0), (2, .ref 49)] [.int s2, .ref 49, .ref 0] I L Q := by
  exact xt_callS mL_arrives [.ref 0, .ref 49, .int s2] [] 3 _ rfl dL_law_650 ml_L_150 qL_arrives rfl ⟨Nat.le_of_ble_eq_true rfl, Nat.le_of_ble_eq_true rfl⟩ ⟨Nat.le_of_ble_eq_true rfl, Nat.le_of_ble_eq_true rfl⟩ ⟨rfl, rfl⟩ (Nat.le_of_ble_eq_true rfl) (Nat.le_of_ble_eq_true rfl) (K)
theorem bL_law_653 {I : Nat → Nat → Int32} {L : Nat → Int64} {Q : Option Value → (Nat → Nat → Int32) → (Nat → Int64) → Prop} {Ln : Nat} {xs : Nat → Int32} {s0 : Int32}  (K1 : (¬ s0 = 0) → XT (50, 1188) Ln xs mL_law 658 [(1, .ref 0), (2, .ref 49)] [] I L Q) (K2 : (s0 = 0) → XT (50, 1188) Ln xs mL_law 656 [] [] I L Q) : XT (50, 1188) Ln xs mL_law 653 [(1, .ref 0), (2, .ref 49)] [.int s0] I L Q := by
  exact x_if_ne 658 dL_law_653 (by decide) (fun h => K1 h) (fun h => x_sub [] rfl (K2 h))
theorem bL_law_656 {I : Nat → Nat → Int32} {L : Nat → Int64} {Q : Option Value → (Nat → Nat → Int32) → (Nat → Int64) → Prop} {Ln : Nat} {xs : Nat → Int32}   (K : Q (some (.int (0 : Int32))) I L) : XT (50, 1188) Ln xs mL_law 656 [] [] I L Q := by
  refine x_iconst (v := (0 : Int32)) dL_law_656 (by decide) ?_
  exact xt_iret dL_law_657 rfl (x_nar _ (Or.inl rfl)) K
theorem bL_law_658 {I : Nat → Nat → Int32} {L : Nat → Int64} {Q : Option Value → (Nat → Nat → Int32) → (Nat → Int64) → Prop} {Ln : Nat} {xs : Nat → Int32}   (K : XS mX9_count 0 [(0, .ref 0), (1, .int (11 : Int32))] [] I L (fun r I' L' => XT (50, 1188) Ln xs mL_law 664 [(1, .ref 0), (2, .ref 49)] (r.toList ++ []) I' L' Q)) : XT (50, 1188) Ln xs mL_law 658 [(1, .ref 0), (2, .ref 49)] [] I L Q := by
  refine x_aload_n 0 dL_law_658 rfl rfl ?_
  refine x_bipush (v := (11 : Int32)) dL_law_659 (by decide) ?_
  exact xt_callV mX9_count [.int (11 : Int32)] [] 0 9 1 _ rfl dL_law_661 ml_L_39 qX9_count rfl ⟨Nat.le_of_ble_eq_true rfl, Nat.le_of_ble_eq_true rfl⟩ ⟨Nat.le_of_ble_eq_true rfl, Nat.le_of_ble_eq_true rfl⟩ ⟨rfl, rfl⟩ (Nat.le_of_ble_eq_true rfl) sh_0 (by decide) rfl (Nat.le_of_ble_eq_true rfl) (K)
theorem bL_law_664 {I : Nat → Nat → Int32} {L : Nat → Int64} {Q : Option Value → (Nat → Nat → Int32) → (Nat → Int64) → Prop} {Ln : Nat} {xs : Nat → Int32} {s0 : Int32}  (K1 : (s0 ≤ 0) → XT (50, 1188) Ln xs mL_law 676 [(1, .ref 0), (2, .ref 49)] [] I L Q) (K2 : (¬ s0 ≤ 0) → XT (50, 1188) Ln xs mL_law 667 [(1, .ref 0), (2, .ref 49)] [] I L Q) : XT (50, 1188) Ln xs mL_law 664 [(1, .ref 0), (2, .ref 49)] [.int s0] I L Q := by
  exact x_if_le 676 dL_law_664 (by decide) (fun h => K1 h) (fun h => K2 h)
theorem bL_law_667 {I : Nat → Nat → Int32} {L : Nat → Int64} {Q : Option Value → (Nat → Nat → Int32) → (Nat → Int64) → Prop} {Ln : Nat} {xs : Nat → Int32}   (K : XS mX9_undo 0 [(0, .ref 0)] [] I L (fun r I' L' => XT (50, 1188) Ln xs mL_law 671 [(1, .ref 0), (2, .ref 49)] (r.toList ++ []) I' L' Q)) : XT (50, 1188) Ln xs mL_law 667 [(1, .ref 0), (2, .ref 49)] [] I L Q := by
  refine x_aload_n 0 dL_law_667 rfl rfl ?_
  exact xt_callV mX9_undo [] [] 0 9 0 _ rfl dL_law_668 ml_L_126 qX9_undo rfl ⟨Nat.le_of_ble_eq_true rfl, Nat.le_of_ble_eq_true rfl⟩ ⟨Nat.le_of_ble_eq_true rfl, Nat.le_of_ble_eq_true rfl⟩ ⟨rfl, rfl⟩ (Nat.le_of_ble_eq_true rfl) sh_0 (by decide) rfl (Nat.le_of_ble_eq_true rfl) (K)
theorem bL_law_671 {I : Nat → Nat → Int32} {L : Nat → Int64} {Q : Option Value → (Nat → Nat → Int32) → (Nat → Int64) → Prop} {Ln : Nat} {xs : Nat → Int32} {s0 : Int32}  (K1 : (0 ≤ s0) → XT (50, 1188) Ln xs mL_law 658 [(1, .ref 0), (2, .ref 49)] [] I L Q) (K2 : (¬ 0 ≤ s0) → XT (50, 1188) Ln xs mL_law 674 [] [] I L Q) : XT (50, 1188) Ln xs mL_law 671 [(1, .ref 0), (2, .ref 49)] [.int s0] I L Q := by
  exact x_if_ge 658 dL_law_671 (by decide) (fun h => K1 h) (fun h => x_sub [] rfl (K2 h))
theorem bL_law_674 {I : Nat → Nat → Int32} {L : Nat → Int64} {Q : Option Value → (Nat → Nat → Int32) → (Nat → Int64) → Prop} {Ln : Nat} {xs : Nat → Int32}   (K : Q (some (.int (0 : Int32))) I L) : XT (50, 1188) Ln xs mL_law 674 [] [] I L Q := by
  refine x_iconst (v := (0 : Int32)) dL_law_674 (by decide) ?_
  exact xt_iret dL_law_675 rfl (x_nar _ (Or.inl rfl)) K
theorem bL_law_676 {I : Nat → Nat → Int32} {L : Nat → Int64} {Q : Option Value → (Nat → Nat → Int32) → (Nat → Int64) → Prop} {Ln : Nat} {xs : Nat → Int32}   (K : XS mX9_undo 0 [(0, .ref 0)] [] I L (fun r I' L' => XT (50, 1188) Ln xs mL_law 680 [(1, .ref 0), (2, .ref 49)] (r.toList ++ []) I' L' Q)) : XT (50, 1188) Ln xs mL_law 676 [(1, .ref 0), (2, .ref 49)] [] I L Q := by
  refine x_aload_n 0 dL_law_676 rfl rfl ?_
  exact xt_callV mX9_undo [] [] 0 9 0 _ rfl dL_law_677 ml_L_126 qX9_undo rfl ⟨Nat.le_of_ble_eq_true rfl, Nat.le_of_ble_eq_true rfl⟩ ⟨Nat.le_of_ble_eq_true rfl, Nat.le_of_ble_eq_true rfl⟩ ⟨rfl, rfl⟩ (Nat.le_of_ble_eq_true rfl) sh_0 (by decide) rfl (Nat.le_of_ble_eq_true rfl) (K)
theorem bL_law_680 {I : Nat → Nat → Int32} {L : Nat → Int64} {Q : Option Value → (Nat → Nat → Int32) → (Nat → Int64) → Prop} {Ln : Nat} {xs : Nat → Int32} {s0 : Int32}  (K1 : (s0 = (-4 : Int32)) → XT (50, 1188) Ln xs mL_law 687 [(1, .ref 0), (2, .ref 49)] [] I L Q) (K2 : (¬ s0 = (-4 : Int32)) → XT (50, 1188) Ln xs mL_law 685 [] [] I L Q) : XT (50, 1188) Ln xs mL_law 680 [(1, .ref 0), (2, .ref 49)] [.int s0] I L Q := by
  refine x_bipush (v := (-4 : Int32)) dL_law_680 (by decide) ?_
  exact x_icmp_eq 687 dL_law_682 (by decide) (fun h => K1 h) (fun h => x_sub [] rfl (K2 h))
theorem bL_law_685 {I : Nat → Nat → Int32} {L : Nat → Int64} {Q : Option Value → (Nat → Nat → Int32) → (Nat → Int64) → Prop} {Ln : Nat} {xs : Nat → Int32}   (K : Q (some (.int (0 : Int32))) I L) : XT (50, 1188) Ln xs mL_law 685 [] [] I L Q := by
  refine x_iconst (v := (0 : Int32)) dL_law_685 (by decide) ?_
  exact xt_iret dL_law_686 rfl (x_nar _ (Or.inl rfl)) K
theorem bL_law_687 {I : Nat → Nat → Int32} {L : Nat → Int64} {Q : Option Value → (Nat → Nat → Int32) → (Nat → Int64) → Prop} {Ln : Nat} {xs : Nat → Int32}   (K : XS mL_says 0 [(0, .ref 0), (1, .int (110 : Int32)), (2, .int (111 : Int32)), (3, .int (100 : Int32)), (4, .int (101 : Int32))] [] I L (fun r I' L' => XT (50, 1188) Ln xs mL_law 699 [(1, .ref 0), (2, .ref 49)] (r.toList ++ []) I' L' Q)) : XT (50, 1188) Ln xs mL_law 687 [(1, .ref 0), (2, .ref 49)] [] I L Q := by
  refine x_aload_n 0 dL_law_687 rfl rfl ?_
  refine x_bipush (v := (110 : Int32)) dL_law_688 (by decide) ?_
  refine x_bipush (v := (111 : Int32)) dL_law_690 (by decide) ?_
  refine x_bipush (v := (100 : Int32)) dL_law_692 (by decide) ?_
  refine x_bipush (v := (101 : Int32)) dL_law_694 (by decide) ?_
  exact xt_callS mL_says [.ref 0, .int (110 : Int32), .int (111 : Int32), .int (100 : Int32), .int (101 : Int32)] [] 5 _ rfl dL_law_696 ml_L_25 qL_says rfl ⟨Nat.le_of_ble_eq_true rfl, Nat.le_of_ble_eq_true rfl⟩ ⟨Nat.le_of_ble_eq_true rfl, Nat.le_of_ble_eq_true rfl⟩ ⟨rfl, rfl⟩ (Nat.le_of_ble_eq_true rfl) (Nat.le_of_ble_eq_true rfl) (K)
theorem bL_law_699 {I : Nat → Nat → Int32} {L : Nat → Int64} {Q : Option Value → (Nat → Nat → Int32) → (Nat → Int64) → Prop} {Ln : Nat} {xs : Nat → Int32}   (K : XS mL_says 0 [(0, .ref 0), (1, .int (115 : Int32)), (2, .int ((48 : Int32) + (I 3136 0))), (3, .int (32 : Int32)), (4, .int (32 : Int32))] [] I L (fun r I' L' => XT (50, 1188) Ln xs mL_law 715 [(1, .ref 0), (2, .ref 49)] (r.toList ++ []) I' L' Q)) : XT (50, 1188) Ln xs mL_law 699 [(1, .ref 0), (2, .ref 49)] [] I L Q := by
  refine x_aload_n 0 dL_law_699 rfl rfl ?_
  refine x_bipush (v := (115 : Int32)) dL_law_700 (by decide) ?_
  refine x_bipush (v := (48 : Int32)) dL_law_702 (by decide) ?_
  refine x_aload_n 1 dL_law_704 rfl rfl ?_
  refine x_iconst (v := (0 : Int32)) dL_law_705 (by decide) ?_
  refine xt_iald 3136 (0) dL_law_706 sh_49 rfl (by decide) (x_vpin (by decide)) ?_
  refine x_iadd dL_law_707 ?_
  refine x_bipush (v := (32 : Int32)) dL_law_708 (by decide) ?_
  refine x_bipush (v := (32 : Int32)) dL_law_710 (by decide) ?_
  exact xt_callS mL_says [.ref 0, .int (115 : Int32), .int ((48 : Int32) + (I 3136 0)), .int (32 : Int32), .int (32 : Int32)] [] 5 _ rfl dL_law_712 ml_L_25 qL_says rfl ⟨Nat.le_of_ble_eq_true rfl, Nat.le_of_ble_eq_true rfl⟩ ⟨Nat.le_of_ble_eq_true rfl, Nat.le_of_ble_eq_true rfl⟩ ⟨rfl, rfl⟩ (Nat.le_of_ble_eq_true rfl) (Nat.le_of_ble_eq_true rfl) (K)
theorem bL_law_715 {I : Nat → Nat → Int32} {L : Nat → Int64} {Q : Option Value → (Nat → Nat → Int32) → (Nat → Int64) → Prop} {Ln : Nat} {xs : Nat → Int32}   (K : XS mX9_tell 0 [(0, .ref 0)] [] I L (fun r I' L' => XT (50, 1188) Ln xs mL_law 719 [(1, .ref 0), (2, .ref 49)] (r.toList ++ []) I' L' Q)) : XT (50, 1188) Ln xs mL_law 715 [(1, .ref 0), (2, .ref 49)] [] I L Q := by
  refine x_aload_n 0 dL_law_715 rfl rfl ?_
  exact xt_callV mX9_tell [] [] 0 9 0 _ rfl dL_law_716 ml_L_36 qX9_tell rfl ⟨Nat.le_of_ble_eq_true rfl, Nat.le_of_ble_eq_true rfl⟩ ⟨Nat.le_of_ble_eq_true rfl, Nat.le_of_ble_eq_true rfl⟩ ⟨rfl, rfl⟩ (Nat.le_of_ble_eq_true rfl) sh_0 (by decide) rfl (Nat.le_of_ble_eq_true rfl) (K)
theorem bL_law_719 {I : Nat → Nat → Int32} {L : Nat → Int64} {Q : Option Value → (Nat → Nat → Int32) → (Nat → Int64) → Prop} {Ln : Nat} {xs : Nat → Int32} {s0 : Int32}  (K1 : (¬ s0 = (1 : Int32)) → XT (50, 1188) Ln xs mL_law 817 [] [] I L Q) (K2 : (s0 = (1 : Int32)) → XT (50, 1188) Ln xs mL_law 723 [(1, .ref 0), (2, .ref 49)] [] I L Q) : XT (50, 1188) Ln xs mL_law 719 [(1, .ref 0), (2, .ref 49)] [.int s0] I L Q := by
  refine x_iconst (v := (1 : Int32)) dL_law_719 (by decide) ?_
  exact x_icmp_ne 817 dL_law_720 (by decide) (fun h => x_sub [] rfl (K1 h)) (fun h => K2 h)
theorem bL_law_723 {I : Nat → Nat → Int32} {L : Nat → Int64} {Q : Option Value → (Nat → Nat → Int32) → (Nat → Int64) → Prop} {Ln : Nat} {xs : Nat → Int32}   (K : XS mX9_count 0 [(0, .ref 0), (1, .int (0 : Int32))] [] I L (fun r I' L' => XT (50, 1188) Ln xs mL_law 728 [(1, .ref 0), (2, .ref 49)] (r.toList ++ []) I' L' Q)) : XT (50, 1188) Ln xs mL_law 723 [(1, .ref 0), (2, .ref 49)] [] I L Q := by
  refine x_aload_n 0 dL_law_723 rfl rfl ?_
  refine x_iconst (v := (0 : Int32)) dL_law_724 (by decide) ?_
  exact xt_callV mX9_count [.int (0 : Int32)] [] 0 9 1 _ rfl dL_law_725 ml_L_39 qX9_count rfl ⟨Nat.le_of_ble_eq_true rfl, Nat.le_of_ble_eq_true rfl⟩ ⟨Nat.le_of_ble_eq_true rfl, Nat.le_of_ble_eq_true rfl⟩ ⟨rfl, rfl⟩ (Nat.le_of_ble_eq_true rfl) sh_0 (by decide) rfl (Nat.le_of_ble_eq_true rfl) (K)
theorem bL_law_728 {I : Nat → Nat → Int32} {L : Nat → Int64} {Q : Option Value → (Nat → Nat → Int32) → (Nat → Int64) → Prop} {Ln : Nat} {xs : Nat → Int32} {s0 : Int32}  (K1 : (¬ s0 = (I 3136 0)) → XT (50, 1188) Ln xs mL_law 817 [] [] I L Q) (K2 : (s0 = (I 3136 0)) → XT (50, 1188) Ln xs mL_law 734 [(1, .ref 0)] [] I L Q) : XT (50, 1188) Ln xs mL_law 728 [(1, .ref 0), (2, .ref 49)] [.int s0] I L Q := by
  refine x_aload_n 1 dL_law_728 rfl rfl ?_
  refine x_iconst (v := (0 : Int32)) dL_law_729 (by decide) ?_
  refine xt_iald 3136 (0) dL_law_730 sh_49 rfl (by decide) (x_vpin (by decide)) ?_
  exact x_icmp_ne 817 dL_law_731 (by decide) (fun h => x_sub [] rfl (K1 h)) (fun h => x_sub [0] rfl (K2 h))
theorem bL_law_734 {I : Nat → Nat → Int32} {L : Nat → Int64} {Q : Option Value → (Nat → Nat → Int32) → (Nat → Int64) → Prop} {Ln : Nat} {xs : Nat → Int32}   (K : XS mX9_count 0 [(0, .ref 0), (1, .int (1 : Int32))] [] I L (fun r I' L' => XT (50, 1188) Ln xs mL_law 739 [(1, .ref 0)] (r.toList ++ []) I' L' Q)) : XT (50, 1188) Ln xs mL_law 734 [(1, .ref 0)] [] I L Q := by
  refine x_aload_n 0 dL_law_734 rfl rfl ?_
  refine x_iconst (v := (1 : Int32)) dL_law_735 (by decide) ?_
  exact xt_callV mX9_count [.int (1 : Int32)] [] 0 9 1 _ rfl dL_law_736 ml_L_39 qX9_count rfl ⟨Nat.le_of_ble_eq_true rfl, Nat.le_of_ble_eq_true rfl⟩ ⟨Nat.le_of_ble_eq_true rfl, Nat.le_of_ble_eq_true rfl⟩ ⟨rfl, rfl⟩ (Nat.le_of_ble_eq_true rfl) sh_0 (by decide) rfl (Nat.le_of_ble_eq_true rfl) (K)
theorem bL_law_739 {I : Nat → Nat → Int32} {L : Nat → Int64} {Q : Option Value → (Nat → Nat → Int32) → (Nat → Int64) → Prop} {Ln : Nat} {xs : Nat → Int32} {s0 : Int32}  (K1 : (¬ s0 = 0) → XT (50, 1188) Ln xs mL_law 817 [] [] I L Q) (K2 : (s0 = 0) → XT (50, 1188) Ln xs mL_law 742 [(1, .ref 0)] [] I L Q) : XT (50, 1188) Ln xs mL_law 739 [(1, .ref 0)] [.int s0] I L Q := by
  exact x_if_ne 817 dL_law_739 (by decide) (fun h => x_sub [] rfl (K1 h)) (fun h => K2 h)
theorem bL_law_742 {I : Nat → Nat → Int32} {L : Nat → Int64} {Q : Option Value → (Nat → Nat → Int32) → (Nat → Int64) → Prop} {Ln : Nat} {xs : Nat → Int32}   (K : XS mX9_count 0 [(0, .ref 0), (1, .int (4 : Int32))] [] I L (fun r I' L' => XT (50, 1188) Ln xs mL_law 747 [(1, .ref 0)] (r.toList ++ []) I' L' Q)) : XT (50, 1188) Ln xs mL_law 742 [(1, .ref 0)] [] I L Q := by
  refine x_aload_n 0 dL_law_742 rfl rfl ?_
  refine x_iconst (v := (4 : Int32)) dL_law_743 (by decide) ?_
  exact xt_callV mX9_count [.int (4 : Int32)] [] 0 9 1 _ rfl dL_law_744 ml_L_39 qX9_count rfl ⟨Nat.le_of_ble_eq_true rfl, Nat.le_of_ble_eq_true rfl⟩ ⟨Nat.le_of_ble_eq_true rfl, Nat.le_of_ble_eq_true rfl⟩ ⟨rfl, rfl⟩ (Nat.le_of_ble_eq_true rfl) sh_0 (by decide) rfl (Nat.le_of_ble_eq_true rfl) (K)
theorem bL_law_747 {I : Nat → Nat → Int32} {L : Nat → Int64} {Q : Option Value → (Nat → Nat → Int32) → (Nat → Int64) → Prop} {Ln : Nat} {xs : Nat → Int32} {s0 : Int32}  (K1 : (¬ s0 = 0) → XT (50, 1188) Ln xs mL_law 817 [] [] I L Q) (K2 : (s0 = 0) → XT (50, 1188) Ln xs mL_law 750 [(1, .ref 0)] [] I L Q) : XT (50, 1188) Ln xs mL_law 747 [(1, .ref 0)] [.int s0] I L Q := by
  exact x_if_ne 817 dL_law_747 (by decide) (fun h => x_sub [] rfl (K1 h)) (fun h => K2 h)
theorem bL_law_750 {I : Nat → Nat → Int32} {L : Nat → Int64} {Q : Option Value → (Nat → Nat → Int32) → (Nat → Int64) → Prop} {Ln : Nat} {xs : Nat → Int32}   (K : XS mX9_count 0 [(0, .ref 0), (1, .int (5 : Int32))] [] I L (fun r I' L' => XT (50, 1188) Ln xs mL_law 755 [(1, .ref 0)] (r.toList ++ []) I' L' Q)) : XT (50, 1188) Ln xs mL_law 750 [(1, .ref 0)] [] I L Q := by
  refine x_aload_n 0 dL_law_750 rfl rfl ?_
  refine x_iconst (v := (5 : Int32)) dL_law_751 (by decide) ?_
  exact xt_callV mX9_count [.int (5 : Int32)] [] 0 9 1 _ rfl dL_law_752 ml_L_39 qX9_count rfl ⟨Nat.le_of_ble_eq_true rfl, Nat.le_of_ble_eq_true rfl⟩ ⟨Nat.le_of_ble_eq_true rfl, Nat.le_of_ble_eq_true rfl⟩ ⟨rfl, rfl⟩ (Nat.le_of_ble_eq_true rfl) sh_0 (by decide) rfl (Nat.le_of_ble_eq_true rfl) (K)
theorem bL_law_755 {I : Nat → Nat → Int32} {L : Nat → Int64} {Q : Option Value → (Nat → Nat → Int32) → (Nat → Int64) → Prop} {Ln : Nat} {xs : Nat → Int32} {s0 : Int32}  (K1 : (¬ s0 = 0) → XT (50, 1188) Ln xs mL_law 817 [] [] I L Q) (K2 : (s0 = 0) → XT (50, 1188) Ln xs mL_law 758 [(1, .ref 0)] [] I L Q) : XT (50, 1188) Ln xs mL_law 755 [(1, .ref 0)] [.int s0] I L Q := by
  exact x_if_ne 817 dL_law_755 (by decide) (fun h => x_sub [] rfl (K1 h)) (fun h => K2 h)
theorem bL_law_758 {I : Nat → Nat → Int32} {L : Nat → Int64} {Q : Option Value → (Nat → Nat → Int32) → (Nat → Int64) → Prop} {Ln : Nat} {xs : Nat → Int32}   (K : XS mX9_count 0 [(0, .ref 0), (1, .int (6 : Int32))] [] I L (fun r I' L' => XT (50, 1188) Ln xs mL_law 764 [(1, .ref 0)] (r.toList ++ []) I' L' Q)) : XT (50, 1188) Ln xs mL_law 758 [(1, .ref 0)] [] I L Q := by
  refine x_aload_n 0 dL_law_758 rfl rfl ?_
  refine x_bipush (v := (6 : Int32)) dL_law_759 (by decide) ?_
  exact xt_callV mX9_count [.int (6 : Int32)] [] 0 9 1 _ rfl dL_law_761 ml_L_39 qX9_count rfl ⟨Nat.le_of_ble_eq_true rfl, Nat.le_of_ble_eq_true rfl⟩ ⟨Nat.le_of_ble_eq_true rfl, Nat.le_of_ble_eq_true rfl⟩ ⟨rfl, rfl⟩ (Nat.le_of_ble_eq_true rfl) sh_0 (by decide) rfl (Nat.le_of_ble_eq_true rfl) (K)
theorem bL_law_764 {I : Nat → Nat → Int32} {L : Nat → Int64} {Q : Option Value → (Nat → Nat → Int32) → (Nat → Int64) → Prop} {Ln : Nat} {xs : Nat → Int32} {s0 : Int32}  (K1 : (¬ s0 = 0) → XT (50, 1188) Ln xs mL_law 817 [] [] I L Q) (K2 : (s0 = 0) → XT (50, 1188) Ln xs mL_law 767 [(1, .ref 0)] [] I L Q) : XT (50, 1188) Ln xs mL_law 764 [(1, .ref 0)] [.int s0] I L Q := by
  exact x_if_ne 817 dL_law_764 (by decide) (fun h => x_sub [] rfl (K1 h)) (fun h => K2 h)
theorem bL_law_767 {I : Nat → Nat → Int32} {L : Nat → Int64} {Q : Option Value → (Nat → Nat → Int32) → (Nat → Int64) → Prop} {Ln : Nat} {xs : Nat → Int32}   (K : XS mX9_count 0 [(0, .ref 0), (1, .int (7 : Int32))] [] I L (fun r I' L' => XT (50, 1188) Ln xs mL_law 773 [(1, .ref 0)] (r.toList ++ []) I' L' Q)) : XT (50, 1188) Ln xs mL_law 767 [(1, .ref 0)] [] I L Q := by
  refine x_aload_n 0 dL_law_767 rfl rfl ?_
  refine x_bipush (v := (7 : Int32)) dL_law_768 (by decide) ?_
  exact xt_callV mX9_count [.int (7 : Int32)] [] 0 9 1 _ rfl dL_law_770 ml_L_39 qX9_count rfl ⟨Nat.le_of_ble_eq_true rfl, Nat.le_of_ble_eq_true rfl⟩ ⟨Nat.le_of_ble_eq_true rfl, Nat.le_of_ble_eq_true rfl⟩ ⟨rfl, rfl⟩ (Nat.le_of_ble_eq_true rfl) sh_0 (by decide) rfl (Nat.le_of_ble_eq_true rfl) (K)
theorem bL_law_773 {I : Nat → Nat → Int32} {L : Nat → Int64} {Q : Option Value → (Nat → Nat → Int32) → (Nat → Int64) → Prop} {Ln : Nat} {xs : Nat → Int32} {s0 : Int32}  (K1 : (¬ s0 = 0) → XT (50, 1188) Ln xs mL_law 817 [] [] I L Q) (K2 : (s0 = 0) → XT (50, 1188) Ln xs mL_law 776 [(1, .ref 0)] [] I L Q) : XT (50, 1188) Ln xs mL_law 773 [(1, .ref 0)] [.int s0] I L Q := by
  exact x_if_ne 817 dL_law_773 (by decide) (fun h => x_sub [] rfl (K1 h)) (fun h => K2 h)
theorem bL_law_776 {I : Nat → Nat → Int32} {L : Nat → Int64} {Q : Option Value → (Nat → Nat → Int32) → (Nat → Int64) → Prop} {Ln : Nat} {xs : Nat → Int32}   (K : XS mX9_count 0 [(0, .ref 0), (1, .int (13 : Int32))] [] I L (fun r I' L' => XT (50, 1188) Ln xs mL_law 782 [(1, .ref 0)] (r.toList ++ []) I' L' Q)) : XT (50, 1188) Ln xs mL_law 776 [(1, .ref 0)] [] I L Q := by
  refine x_aload_n 0 dL_law_776 rfl rfl ?_
  refine x_bipush (v := (13 : Int32)) dL_law_777 (by decide) ?_
  exact xt_callV mX9_count [.int (13 : Int32)] [] 0 9 1 _ rfl dL_law_779 ml_L_39 qX9_count rfl ⟨Nat.le_of_ble_eq_true rfl, Nat.le_of_ble_eq_true rfl⟩ ⟨Nat.le_of_ble_eq_true rfl, Nat.le_of_ble_eq_true rfl⟩ ⟨rfl, rfl⟩ (Nat.le_of_ble_eq_true rfl) sh_0 (by decide) rfl (Nat.le_of_ble_eq_true rfl) (K)
theorem bL_law_782 {I : Nat → Nat → Int32} {L : Nat → Int64} {Q : Option Value → (Nat → Nat → Int32) → (Nat → Int64) → Prop} {Ln : Nat} {xs : Nat → Int32} {s0 : Int32}  (K1 : (¬ s0 = 0) → XT (50, 1188) Ln xs mL_law 817 [] [] I L Q) (K2 : (s0 = 0) → XT (50, 1188) Ln xs mL_law 785 [(1, .ref 0)] [] I L Q) : XT (50, 1188) Ln xs mL_law 782 [(1, .ref 0)] [.int s0] I L Q := by
  exact x_if_ne 817 dL_law_782 (by decide) (fun h => x_sub [] rfl (K1 h)) (fun h => K2 h)
theorem bL_law_785 {I : Nat → Nat → Int32} {L : Nat → Int64} {Q : Option Value → (Nat → Nat → Int32) → (Nat → Int64) → Prop} {Ln : Nat} {xs : Nat → Int32}   (K : XS mX9_way 0 [(0, .ref 0), (1, .int (-1 : Int32))] [] I L (fun r I' L' => XT (50, 1188) Ln xs mL_law 790 [(1, .ref 0)] (r.toList ++ []) I' L' Q)) : XT (50, 1188) Ln xs mL_law 785 [(1, .ref 0)] [] I L Q := by
  refine x_aload_n 0 dL_law_785 rfl rfl ?_
  refine x_iconst (v := (-1 : Int32)) dL_law_786 (by decide) ?_
  exact xt_callV mX9_way [.int (-1 : Int32)] [] 0 9 1 _ rfl dL_law_787 ml_L_119 qX9_way rfl ⟨Nat.le_of_ble_eq_true rfl, Nat.le_of_ble_eq_true rfl⟩ ⟨Nat.le_of_ble_eq_true rfl, Nat.le_of_ble_eq_true rfl⟩ ⟨rfl, rfl⟩ (Nat.le_of_ble_eq_true rfl) sh_0 (by decide) rfl (Nat.le_of_ble_eq_true rfl) (K)
theorem bL_law_790 {I : Nat → Nat → Int32} {L : Nat → Int64} {Q : Option Value → (Nat → Nat → Int32) → (Nat → Int64) → Prop} {Ln : Nat} {xs : Nat → Int32} {s0 : Int32}  (K1 : (¬ s0 = (-1 : Int32)) → XT (50, 1188) Ln xs mL_law 817 [] [] I L Q) (K2 : (s0 = (-1 : Int32)) → XT (50, 1188) Ln xs mL_law 794 [(1, .ref 0)] [] I L Q) : XT (50, 1188) Ln xs mL_law 790 [(1, .ref 0)] [.int s0] I L Q := by
  refine x_iconst (v := (-1 : Int32)) dL_law_790 (by decide) ?_
  exact x_icmp_ne 817 dL_law_791 (by decide) (fun h => x_sub [] rfl (K1 h)) (fun h => K2 h)
theorem bL_law_794 {I : Nat → Nat → Int32} {L : Nat → Int64} {Q : Option Value → (Nat → Nat → Int32) → (Nat → Int64) → Prop} {Ln : Nat} {xs : Nat → Int32}   (K : XS mX9_seen 0 [(0, .ref 0), (1, .int (0 : Int32))] [] I L (fun r I' L' => XT (50, 1188) Ln xs mL_law 799 [(1, .ref 0)] (r.toList ++ []) I' L' Q)) : XT (50, 1188) Ln xs mL_law 794 [(1, .ref 0)] [] I L Q := by
  refine x_aload_n 0 dL_law_794 rfl rfl ?_
  refine x_iconst (v := (0 : Int32)) dL_law_795 (by decide) ?_
  exact xt_callV mX9_seen [.int (0 : Int32)] [] 0 9 1 _ rfl dL_law_796 ml_L_55 qX9_seen rfl ⟨Nat.le_of_ble_eq_true rfl, Nat.le_of_ble_eq_true rfl⟩ ⟨Nat.le_of_ble_eq_true rfl, Nat.le_of_ble_eq_true rfl⟩ ⟨rfl, rfl⟩ (Nat.le_of_ble_eq_true rfl) sh_0 (by decide) rfl (Nat.le_of_ble_eq_true rfl) (K)
theorem bL_law_799 {I : Nat → Nat → Int32} {L : Nat → Int64} {Q : Option Value → (Nat → Nat → Int32) → (Nat → Int64) → Prop} {Ln : Nat} {xs : Nat → Int32} {s0 : Int32}  (K1 : (¬ s0 = 0) → XT (50, 1188) Ln xs mL_law 817 [] [] I L Q) (K2 : (s0 = 0) → XT (50, 1188) Ln xs mL_law 802 [(1, .ref 0)] [] I L Q) : XT (50, 1188) Ln xs mL_law 799 [(1, .ref 0)] [.int s0] I L Q := by
  exact x_if_ne 817 dL_law_799 (by decide) (fun h => x_sub [] rfl (K1 h)) (fun h => K2 h)
theorem bL_law_802 {I : Nat → Nat → Int32} {L : Nat → Int64} {Q : Option Value → (Nat → Nat → Int32) → (Nat → Int64) → Prop} {Ln : Nat} {xs : Nat → Int32}   (K : XS mX9_link 0 [(0, .ref 0), (1, .int (0 : Int32)), (2, .int (0 : Int32))] [] I L (fun r I' L' => XT (50, 1188) Ln xs mL_law 808 [] (r.toList ++ []) I' L' Q)) : XT (50, 1188) Ln xs mL_law 802 [(1, .ref 0)] [] I L Q := by
  refine x_aload_n 0 dL_law_802 rfl rfl ?_
  refine x_iconst (v := (0 : Int32)) dL_law_803 (by decide) ?_
  refine x_iconst (v := (0 : Int32)) dL_law_804 (by decide) ?_
  refine x_sub [] rfl ?_
  exact xt_callV mX9_link [.int (0 : Int32), .int (0 : Int32)] [] 0 9 2 _ rfl dL_law_805 ml_L_52 qX9_link rfl ⟨Nat.le_of_ble_eq_true rfl, Nat.le_of_ble_eq_true rfl⟩ ⟨Nat.le_of_ble_eq_true rfl, Nat.le_of_ble_eq_true rfl⟩ ⟨rfl, rfl⟩ (Nat.le_of_ble_eq_true rfl) sh_0 (by decide) rfl (Nat.le_of_ble_eq_true rfl) (K)
theorem bL_law_808 {I : Nat → Nat → Int32} {L : Nat → Int64} {Q : Option Value → (Nat → Nat → Int32) → (Nat → Int64) → Prop} {Ln : Nat} {xs : Nat → Int32} {s0 : Int32}  (K1 : (¬ s0 = (-2 : Int32)) → XT (50, 1188) Ln xs mL_law 817 [] [] I L Q) (K2 : (s0 = (-2 : Int32)) → XT (50, 1188) Ln xs mL_law 813 [] [] I L Q) : XT (50, 1188) Ln xs mL_law 808 [] [.int s0] I L Q := by
  refine x_bipush (v := (-2 : Int32)) dL_law_808 (by decide) ?_
  exact x_icmp_ne 817 dL_law_810 (by decide) (fun h => K1 h) (fun h => K2 h)
theorem bL_law_813 {I : Nat → Nat → Int32} {L : Nat → Int64} {Q : Option Value → (Nat → Nat → Int32) → (Nat → Int64) → Prop} {Ln : Nat} {xs : Nat → Int32}   (K : XT (50, 1188) Ln xs mL_law 818 [] [.int (1 : Int32)] I L Q) : XT (50, 1188) Ln xs mL_law 813 [] [] I L Q := by
  refine x_iconst (v := (1 : Int32)) dL_law_813 (by decide) ?_
  exact x_goto 818 dL_law_814 (by decide) (K)
theorem bL_law_817 {I : Nat → Nat → Int32} {L : Nat → Int64} {Q : Option Value → (Nat → Nat → Int32) → (Nat → Int64) → Prop} {Ln : Nat} {xs : Nat → Int32}   (K : XT (50, 1188) Ln xs mL_law 818 [] [.int (0 : Int32)] I L Q) : XT (50, 1188) Ln xs mL_law 817 [] [] I L Q := by
  refine x_iconst (v := (0 : Int32)) dL_law_817 (by decide) ?_
  exact K
theorem bL_law_818 {I : Nat → Nat → Int32} {L : Nat → Int64} {Q : Option Value → (Nat → Nat → Int32) → (Nat → Int64) → Prop} {Ln : Nat} {xs : Nat → Int32} {s0 : Int32} (hz1 : s0 = 0 ∨ s0 = 1) (K : Q (some (.int s0)) I L) : XT (50, 1188) Ln xs mL_law 818 [] [.int s0] I L Q := by
  exact xt_iret dL_law_818 rfl (x_nar _ hz1) K
