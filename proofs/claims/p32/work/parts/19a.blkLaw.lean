/-! ===== blocks ===== -/
theorem bL_part_0 {I : Nat → Nat → Int32} {L : Nat → Int64} {Q : Option Value → (Nat → Nat → Int32) → (Nat → Int64) → Prop} {v0 : Int32} {v1 : Int32} (hn1 : ¬ v1 = 0) (K : Q (some (.int ((v0 &&& (2147483647 : Int32)) - (v0 &&& (2147483647 : Int32)) / v1 * v1))) I L) : XS mL_part 0 [(0, .int v0), (1, .int v1)] [] I L Q := by
  refine x_iload_n 0 dL_part_0 rfl rfl ?_
  refine x_ldc dL_part_1 ct_L_7 ?_
  refine x_iand dL_part_3 ?_
  refine x_iload_n 1 dL_part_4 rfl rfl ?_
  refine x_irem dL_part_5 hn1 ?_
  exact xs_iret dL_part_6 rfl rfl K
theorem bL_cell_0 {I : Nat → Nat → Int32} {L : Nat → Int64} {Q : Option Value → (Nat → Nat → Int32) → (Nat → Int64) → Prop} {Ln : Nat} {xs : Nat → Int32} {v1 : Int32}  (K1 : (¬ (Int32.ofNat Ln) = 0) → XT (0, 0) Ln xs mL_cell 15 [(0, .ref 1000020), (1, .int v1)] [] I L Q) (K2 : ((Int32.ofNat Ln) = 0) → XT (0, 0) Ln xs mL_cell 5 [(1, .int v1)] [] I L Q) : XT (0, 0) Ln xs mL_cell 0 [(0, .ref 1000020), (1, .int v1)] [] I L Q := by
  refine x_aload_n 0 dL_cell_0 rfl rfl ?_
  refine x_slen dL_cell_1 ?_
  exact x_if_ne 15 dL_cell_2 (by decide) (fun h => K1 h) (fun h => x_sub [1] rfl (K2 h))
theorem bL_cell_5 {I : Nat → Nat → Int32} {L : Nat → Int64} {Q : Option Value → (Nat → Nat → Int32) → (Nat → Int64) → Prop} {Ln : Nat} {xs : Nat → Int32} {v1 : Int32}  (K : XT (0, 0) Ln xs mL_cell 39 [] [.int (((7919 : Int32) * v1) + (3 : Int32))] I L Q) : XT (0, 0) Ln xs mL_cell 5 [(1, .int v1)] [] I L Q := by
  refine x_sipush (v := (7919 : Int32)) dL_cell_5 (by decide) ?_
  refine x_iload_n 0 dL_cell_8 rfl rfl ?_
  refine x_imul dL_cell_9 ?_
  refine x_iconst (v := (3 : Int32)) dL_cell_10 (by decide) ?_
  refine x_iadd dL_cell_11 ?_
  exact x_goto 39 dL_cell_12 (by decide) (x_sub [] rfl (K))
theorem bL_cell_15 {I : Nat → Nat → Int32} {L : Nat → Int64} {Q : Option Value → (Nat → Nat → Int32) → (Nat → Int64) → Prop} {Ln : Nat} {xs : Nat → Int32} {v1 : Int32} (hn1 : ¬ (Int32.ofNat Ln) = 0) (hb2 : vp_in (v1 - v1 / (Int32.ofNat Ln) * (Int32.ofNat Ln)) Ln) (hn3 : ¬ (Int32.ofNat Ln) = 0) (K : XT (0, 0) Ln xs mL_cell 39 [] [.int ((((xs (v1 - v1 / (Int32.ofNat Ln) * (Int32.ofNat Ln)).toNatClampNeg) >>> ((v1 - v1 / (7 : Int32) * (7 : Int32)) &&& 31)) ^^^ ((v1 / (Int32.ofNat Ln)) * (31 : Int32))) ^^^ (v1 * (2654435 : Int32)))] I L Q) : XT (0, 0) Ln xs mL_cell 15 [(0, .ref 1000020), (1, .int v1)] [] I L Q := by
  refine x_aload_n 0 dL_cell_15 rfl rfl ?_
  refine x_iload_n 1 dL_cell_16 rfl rfl ?_
  refine x_aload_n 0 dL_cell_17 rfl rfl ?_
  refine x_slen dL_cell_18 ?_
  refine x_irem dL_cell_19 hn1 ?_
  refine x_sld dL_cell_20 hb2 ?_
  refine x_iload_n 1 dL_cell_21 rfl rfl ?_
  refine x_bipush (v := (7 : Int32)) dL_cell_22 (by decide) ?_
  refine x_irem dL_cell_24 (by decide) ?_
  refine x_ishr dL_cell_25 ?_
  refine x_iload_n 1 dL_cell_26 rfl rfl ?_
  refine x_aload_n 0 dL_cell_27 rfl rfl ?_
  refine x_slen dL_cell_28 ?_
  refine x_idiv dL_cell_29 hn3 ?_
  refine x_bipush (v := (31 : Int32)) dL_cell_30 (by decide) ?_
  refine x_imul dL_cell_32 ?_
  refine x_ixor dL_cell_33 ?_
  refine x_iload_n 1 dL_cell_34 rfl rfl ?_
  refine x_ldc dL_cell_35 ct_L_8 ?_
  refine x_imul dL_cell_37 ?_
  refine x_ixor dL_cell_38 ?_
  exact x_sub [] rfl (K)
theorem bL_cell_39 {I : Nat → Nat → Int32} {L : Nat → Int64} {Q : Option Value → (Nat → Nat → Int32) → (Nat → Int64) → Prop} {Ln : Nat} {xs : Nat → Int32} {s0 : Int32}  (K : Q (some (.int s0)) I L) : XT (0, 0) Ln xs mL_cell 39 [] [.int s0] I L Q := by
  exact xt_iret dL_cell_39 rfl rfl K
theorem bL_nets_0 {I : Nat → Nat → Int32} {L : Nat → Int64} {Q : Option Value → (Nat → Nat → Int32) → (Nat → Int64) → Prop} {Ln : Nat} {xs : Nat → Int32} {v3 : Int32}  (K : XT (0, 0) Ln xs mL_cell 0 [(0, .ref 1000020), (1, .int v3)] [] I L (fun r I' L' => XT (0, 0) Ln xs mL_nets 6 [(0, .ref 0), (1, .ref 49), (2, .ref 1000020), (3, .int v3)] (r.toList ++ [.int (2 : Int32)]) I' L' Q)) : XT (0, 0) Ln xs mL_nets 0 [(0, .ref 0), (1, .ref 49), (2, .ref 1000020), (3, .int v3)] [] I L Q := by
  refine x_iconst (v := (2 : Int32)) dL_nets_0 (by decide) ?_
  refine x_aload_n 2 dL_nets_1 rfl rfl ?_
  refine x_iload_n 3 dL_nets_2 rfl rfl ?_
  exact xt_callSS mL_cell [.ref 1000020, .int v3] [.int (2 : Int32)] 2 _ rfl dL_nets_3 ml_L_9 qL_cell rfl ⟨Nat.le_of_ble_eq_true rfl, Nat.le_of_ble_eq_true rfl⟩ ⟨Nat.le_of_ble_eq_true rfl, Nat.le_of_ble_eq_true rfl⟩ ⟨rfl, rfl⟩ (Nat.le_of_ble_eq_true rfl) (Nat.le_of_ble_eq_true rfl) (K)
theorem bL_nets_6 {I : Nat → Nat → Int32} {L : Nat → Int64} {Q : Option Value → (Nat → Nat → Int32) → (Nat → Int64) → Prop} {Ln : Nat} {xs : Nat → Int32} {v3 : Int32} {s0 : Int32} {s1 : Int32}  (K : XS mL_part 0 [(0, .int s1), (1, .int (7 : Int32))] [] I L (fun r I' L' => XT (0, 0) Ln xs mL_nets 11 [(0, .ref 0), (1, .ref 49), (2, .ref 1000020), (3, .int v3)] (r.toList ++ [.int s0]) I' L' Q)) : XT (0, 0) Ln xs mL_nets 6 [(0, .ref 0), (1, .ref 49), (2, .ref 1000020), (3, .int v3)] [.int s1, .int s0] I L Q := by
  refine x_bipush (v := (7 : Int32)) dL_nets_6 (by decide) ?_
  exact xt_callS mL_part [.int s1, .int (7 : Int32)] [.int s0] 2 _ rfl dL_nets_8 ml_L_15 qL_part rfl ⟨Nat.le_of_ble_eq_true rfl, Nat.le_of_ble_eq_true rfl⟩ ⟨Nat.le_of_ble_eq_true rfl, Nat.le_of_ble_eq_true rfl⟩ ⟨rfl, rfl⟩ (Nat.le_of_ble_eq_true rfl) (Nat.le_of_ble_eq_true rfl) (K)
theorem bL_nets_11 {I : Nat → Nat → Int32} {L : Nat → Int64} {Q : Option Value → (Nat → Nat → Int32) → (Nat → Int64) → Prop} {Ln : Nat} {xs : Nat → Int32} {v3 : Int32} {s0 : Int32} {s1 : Int32}  (K : XT (0, 0) Ln xs mL_cell 0 [(0, .ref 1000020), (1, .int v3)] [] I L (fun r I' L' => XT (0, 0) Ln xs mL_nets 19 [(0, .ref 0), (1, .ref 49), (2, .ref 1000020), (3, .int v3), (4, .int (s0 + s1))] (r.toList ++ []) I' L' Q)) : XT (0, 0) Ln xs mL_nets 11 [(0, .ref 0), (1, .ref 49), (2, .ref 1000020), (3, .int v3)] [.int s1, .int s0] I L Q := by
  refine x_iadd dL_nets_11 ?_
  refine x_istore [(0, .ref 0), (1, .ref 49), (2, .ref 1000020), (3, .int v3), (4, .int (s0 + s1))] dL_nets_12 (Nat.le_of_ble_eq_true rfl) rfl ?_
  refine x_aload_n 2 dL_nets_14 rfl rfl ?_
  refine x_iload_n 3 dL_nets_15 rfl rfl ?_
  exact xt_callSS mL_cell [.ref 1000020, .int v3] [] 2 _ rfl dL_nets_16 ml_L_9 qL_cell rfl ⟨Nat.le_of_ble_eq_true rfl, Nat.le_of_ble_eq_true rfl⟩ ⟨Nat.le_of_ble_eq_true rfl, Nat.le_of_ble_eq_true rfl⟩ ⟨rfl, rfl⟩ (Nat.le_of_ble_eq_true rfl) (Nat.le_of_ble_eq_true rfl) (K)
theorem bL_nets_19 {I : Nat → Nat → Int32} {L : Nat → Int64} {Q : Option Value → (Nat → Nat → Int32) → (Nat → Int64) → Prop} {Ln : Nat} {xs : Nat → Int32} {v3 : Int32} {v4 : Int32} {s0 : Int32}  (K : XS mL_part 0 [(0, .int (s0 >>> ((3 : Int32) &&& 31))), (1, .int (15 : Int32))] [] I L (fun r I' L' => XT (0, 0) Ln xs mL_nets 26 [(0, .ref 0), (1, .ref 49), (2, .ref 1000020), (3, .int v3), (4, .int v4)] (r.toList ++ []) I' L' Q)) : XT (0, 0) Ln xs mL_nets 19 [(0, .ref 0), (1, .ref 49), (2, .ref 1000020), (3, .int v3), (4, .int v4)] [.int s0] I L Q := by
  refine x_iconst (v := (3 : Int32)) dL_nets_19 (by decide) ?_
  refine x_ishr dL_nets_20 ?_
  refine x_bipush (v := (15 : Int32)) dL_nets_21 (by decide) ?_
  exact xt_callS mL_part [.int (s0 >>> ((3 : Int32) &&& 31)), .int (15 : Int32)] [] 2 _ rfl dL_nets_23 ml_L_15 qL_part rfl ⟨Nat.le_of_ble_eq_true rfl, Nat.le_of_ble_eq_true rfl⟩ ⟨Nat.le_of_ble_eq_true rfl, Nat.le_of_ble_eq_true rfl⟩ ⟨rfl, rfl⟩ (Nat.le_of_ble_eq_true rfl) (Nat.le_of_ble_eq_true rfl) (K)
theorem bL_nets_26 {I : Nat → Nat → Int32} {L : Nat → Int64} {Q : Option Value → (Nat → Nat → Int32) → (Nat → Int64) → Prop} {Ln : Nat} {xs : Nat → Int32} {v3 : Int32} {v4 : Int32} {s0 : Int32}  (K : XS mX9_erase 0 [(0, .ref 0)] [] (x_up (x_up I 3136 0 v4) 3136 1 (0 : Int32)) L (fun r I' L' => XT (0, 0) Ln xs mL_nets 41 [(0, .ref 0), (1, .ref 49), (2, .ref 1000020), (3, .int v3), (4, .int v4), (5, .int s0)] (r.toList ++ []) I' L' Q)) : XT (0, 0) Ln xs mL_nets 26 [(0, .ref 0), (1, .ref 49), (2, .ref 1000020), (3, .int v3), (4, .int v4)] [.int s0] I L Q := by
  refine x_istore [(0, .ref 0), (1, .ref 49), (2, .ref 1000020), (3, .int v3), (4, .int v4), (5, .int s0)] dL_nets_26 (Nat.le_of_ble_eq_true rfl) rfl ?_
  refine x_aload_n 1 dL_nets_28 rfl rfl ?_
  refine x_iconst (v := (0 : Int32)) dL_nets_29 (by decide) ?_
  refine x_iload 4 dL_nets_30 rfl ?_
  refine xt_iast 3136 (0) dL_nets_32 sh_49 rfl (by decide) (x_vpin (by decide)) ?_
  refine x_aload_n 1 dL_nets_33 rfl rfl ?_
  refine x_iconst (v := (1 : Int32)) dL_nets_34 (by decide) ?_
  refine x_iconst (v := (0 : Int32)) dL_nets_35 (by decide) ?_
  refine xt_iast 3136 (1) dL_nets_36 sh_49 rfl (by decide) (x_vpin (by decide)) ?_
  refine x_aload_n 0 dL_nets_37 rfl rfl ?_
  exact xt_callV mX9_erase [] [] 0 9 0 _ rfl dL_nets_38 ml_L_19 qX9_erase rfl ⟨Nat.le_of_ble_eq_true rfl, Nat.le_of_ble_eq_true rfl⟩ ⟨Nat.le_of_ble_eq_true rfl, Nat.le_of_ble_eq_true rfl⟩ ⟨rfl, rfl⟩ (Nat.le_of_ble_eq_true rfl) sh_0 (by decide) rfl (Nat.le_of_ble_eq_true rfl) (K)
theorem bL_nets_41 {I : Nat → Nat → Int32} {L : Nat → Int64} {Q : Option Value → (Nat → Nat → Int32) → (Nat → Int64) → Prop} {Ln : Nat} {xs : Nat → Int32} {v3 : Int32} {v4 : Int32} {v5 : Int32} {s0 : Int32}  (K : XS mL_says 0 [(0, .ref 0), (1, .int (110 : Int32)), (2, .int (111 : Int32)), (3, .int (100 : Int32)), (4, .int (101 : Int32))] [] I L (fun r I' L' => XT (0, 0) Ln xs mL_nets 54 [(0, .ref 0), (1, .ref 49), (2, .ref 1000020), (3, .int v3), (4, .int v4), (5, .int v5)] (r.toList ++ []) I' L' Q)) : XT (0, 0) Ln xs mL_nets 41 [(0, .ref 0), (1, .ref 49), (2, .ref 1000020), (3, .int v3), (4, .int v4), (5, .int v5)] [.int s0] I L Q := by
  refine x_pop dL_nets_41 rfl ?_
  refine x_aload_n 0 dL_nets_42 rfl rfl ?_
  refine x_bipush (v := (110 : Int32)) dL_nets_43 (by decide) ?_
  refine x_bipush (v := (111 : Int32)) dL_nets_45 (by decide) ?_
  refine x_bipush (v := (100 : Int32)) dL_nets_47 (by decide) ?_
  refine x_bipush (v := (101 : Int32)) dL_nets_49 (by decide) ?_
  exact xt_callS mL_says [.ref 0, .int (110 : Int32), .int (111 : Int32), .int (100 : Int32), .int (101 : Int32)] [] 5 _ rfl dL_nets_51 ml_L_25 qL_says rfl ⟨Nat.le_of_ble_eq_true rfl, Nat.le_of_ble_eq_true rfl⟩ ⟨Nat.le_of_ble_eq_true rfl, Nat.le_of_ble_eq_true rfl⟩ ⟨rfl, rfl⟩ (Nat.le_of_ble_eq_true rfl) (Nat.le_of_ble_eq_true rfl) (K)
theorem bL_nets_54 {I : Nat → Nat → Int32} {L : Nat → Int64} {Q : Option Value → (Nat → Nat → Int32) → (Nat → Int64) → Prop} {Ln : Nat} {xs : Nat → Int32} {v3 : Int32} {v4 : Int32} {v5 : Int32}  (K : XS mL_says 0 [(0, .ref 0), (1, .int (115 : Int32)), (2, .int ((48 : Int32) + v4)), (3, .int (32 : Int32)), (4, .int (32 : Int32))] [] I L (fun r I' L' => XT (0, 0) Ln xs mL_nets 69 [(0, .ref 0), (1, .ref 49), (2, .ref 1000020), (3, .int v3), (4, .int v4), (5, .int v5)] (r.toList ++ []) I' L' Q)) : XT (0, 0) Ln xs mL_nets 54 [(0, .ref 0), (1, .ref 49), (2, .ref 1000020), (3, .int v3), (4, .int v4), (5, .int v5)] [] I L Q := by
  refine x_aload_n 0 dL_nets_54 rfl rfl ?_
  refine x_bipush (v := (115 : Int32)) dL_nets_55 (by decide) ?_
  refine x_bipush (v := (48 : Int32)) dL_nets_57 (by decide) ?_
  refine x_iload 4 dL_nets_59 rfl ?_
  refine x_iadd dL_nets_61 ?_
  refine x_bipush (v := (32 : Int32)) dL_nets_62 (by decide) ?_
  refine x_bipush (v := (32 : Int32)) dL_nets_64 (by decide) ?_
  exact xt_callS mL_says [.ref 0, .int (115 : Int32), .int ((48 : Int32) + v4), .int (32 : Int32), .int (32 : Int32)] [] 5 _ rfl dL_nets_66 ml_L_25 qL_says rfl ⟨Nat.le_of_ble_eq_true rfl, Nat.le_of_ble_eq_true rfl⟩ ⟨Nat.le_of_ble_eq_true rfl, Nat.le_of_ble_eq_true rfl⟩ ⟨rfl, rfl⟩ (Nat.le_of_ble_eq_true rfl) (Nat.le_of_ble_eq_true rfl) (K)
theorem bL_nets_69 {I : Nat → Nat → Int32} {L : Nat → Int64} {Q : Option Value → (Nat → Nat → Int32) → (Nat → Int64) → Prop} {Ln : Nat} {xs : Nat → Int32} {v3 : Int32} {v4 : Int32} {v5 : Int32}  (K : XT (0, 0) Ln xs mL_nets 72 [(0, .ref 0), (1, .ref 49), (2, .ref 1000020), (3, .int v3), (4, .int v4), (5, .int v5), (6, .int (0 : Int32))] [] I L Q) : XT (0, 0) Ln xs mL_nets 69 [(0, .ref 0), (1, .ref 49), (2, .ref 1000020), (3, .int v3), (4, .int v4), (5, .int v5)] [] I L Q := by
  refine x_iconst (v := (0 : Int32)) dL_nets_69 (by decide) ?_
  refine x_istore [(0, .ref 0), (1, .ref 49), (2, .ref 1000020), (3, .int v3), (4, .int v4), (5, .int v5), (6, .int (0 : Int32))] dL_nets_70 (Nat.le_of_ble_eq_true rfl) rfl ?_
  exact K
theorem bL_nets_72 {I : Nat → Nat → Int32} {L : Nat → Int64} {Q : Option Value → (Nat → Nat → Int32) → (Nat → Int64) → Prop} {Ln : Nat} {xs : Nat → Int32} {v3 : Int32} {v4 : Int32} {v5 : Int32} {v6 : Int32}  (K1 : (v5 ≤ v6) → XT (0, 0) Ln xs mL_nets 347 [(0, .ref 0), (1, .ref 49), (4, .int v4)] [] I L Q) (K2 : (¬ v5 ≤ v6) → XT (0, 0) Ln xs mL_nets 79 [(0, .ref 0), (1, .ref 49), (2, .ref 1000020), (3, .int v3), (4, .int v4), (5, .int v5), (6, .int v6)] [] I L Q) : XT (0, 0) Ln xs mL_nets 72 [(0, .ref 0), (1, .ref 49), (2, .ref 1000020), (3, .int v3), (4, .int v4), (5, .int v5), (6, .int v6)] [] I L Q := by
  refine x_iload 6 dL_nets_72 rfl ?_
  refine x_iload 5 dL_nets_74 rfl ?_
  exact x_icmp_ge 347 dL_nets_76 (by decide) (fun h => x_sub [0, 1, 4] rfl (K1 h)) (fun h => K2 h)
theorem bL_nets_79 {I : Nat → Nat → Int32} {L : Nat → Int64} {Q : Option Value → (Nat → Nat → Int32) → (Nat → Int64) → Prop} {Ln : Nat} {xs : Nat → Int32} {v3 : Int32} {v4 : Int32} {v5 : Int32} {v6 : Int32}  (K : XT (0, 0) Ln xs mL_cell 0 [(0, .ref 1000020), (1, .int ((v3 + (1 : Int32)) + v6))] [] I L (fun r I' L' => XT (0, 0) Ln xs mL_nets 89 [(0, .ref 0), (1, .ref 49), (2, .ref 1000020), (3, .int v3), (4, .int v4), (5, .int v5), (6, .int v6)] (r.toList ++ []) I' L' Q)) : XT (0, 0) Ln xs mL_nets 79 [(0, .ref 0), (1, .ref 49), (2, .ref 1000020), (3, .int v3), (4, .int v4), (5, .int v5), (6, .int v6)] [] I L Q := by
  refine x_aload_n 2 dL_nets_79 rfl rfl ?_
  refine x_iload_n 3 dL_nets_80 rfl rfl ?_
  refine x_iconst (v := (1 : Int32)) dL_nets_81 (by decide) ?_
  refine x_iadd dL_nets_82 ?_
  refine x_iload 6 dL_nets_83 rfl ?_
  refine x_iadd dL_nets_85 ?_
  exact xt_callSS mL_cell [.ref 1000020, .int ((v3 + (1 : Int32)) + v6)] [] 2 _ rfl dL_nets_86 ml_L_9 qL_cell rfl ⟨Nat.le_of_ble_eq_true rfl, Nat.le_of_ble_eq_true rfl⟩ ⟨Nat.le_of_ble_eq_true rfl, Nat.le_of_ble_eq_true rfl⟩ ⟨rfl, rfl⟩ (Nat.le_of_ble_eq_true rfl) (Nat.le_of_ble_eq_true rfl) (K)
theorem bL_nets_89 {I : Nat → Nat → Int32} {L : Nat → Int64} {Q : Option Value → (Nat → Nat → Int32) → (Nat → Int64) → Prop} {Ln : Nat} {xs : Nat → Int32} {v3 : Int32} {v4 : Int32} {v5 : Int32} {v6 : Int32} {s0 : Int32}  (K : XS mL_part 0 [(0, .int s0), (1, .int v4)] [] I L (fun r I' L' => XT (0, 0) Ln xs mL_nets 98 [(0, .ref 0), (1, .ref 49), (2, .ref 1000020), (3, .int v3), (4, .int v4), (5, .int v5), (6, .int v6), (7, .int s0)] (r.toList ++ []) I' L' Q)) : XT (0, 0) Ln xs mL_nets 89 [(0, .ref 0), (1, .ref 49), (2, .ref 1000020), (3, .int v3), (4, .int v4), (5, .int v5), (6, .int v6)] [.int s0] I L Q := by
  refine x_istore [(0, .ref 0), (1, .ref 49), (2, .ref 1000020), (3, .int v3), (4, .int v4), (5, .int v5), (6, .int v6), (7, .int s0)] dL_nets_89 (Nat.le_of_ble_eq_true rfl) rfl ?_
  refine x_iload 7 dL_nets_91 rfl ?_
  refine x_iload 4 dL_nets_93 rfl ?_
  exact xt_callS mL_part [.int s0, .int v4] [] 2 _ rfl dL_nets_95 ml_L_15 qL_part rfl ⟨Nat.le_of_ble_eq_true rfl, Nat.le_of_ble_eq_true rfl⟩ ⟨Nat.le_of_ble_eq_true rfl, Nat.le_of_ble_eq_true rfl⟩ ⟨rfl, rfl⟩ (Nat.le_of_ble_eq_true rfl) (Nat.le_of_ble_eq_true rfl) (K)
theorem bL_nets_98 {I : Nat → Nat → Int32} {L : Nat → Int64} {Q : Option Value → (Nat → Nat → Int32) → (Nat → Int64) → Prop} {Ln : Nat} {xs : Nat → Int32} {v3 : Int32} {v4 : Int32} {v5 : Int32} {v6 : Int32} {v7 : Int32} {s0 : Int32}  (K : XS mL_part 0 [(0, .int (v7 >>> ((3 : Int32) &&& 31))), (1, .int v4)] [] I L (fun r I' L' => XT (0, 0) Ln xs mL_nets 109 [(0, .ref 0), (1, .ref 49), (2, .ref 1000020), (3, .int v3), (4, .int v4), (5, .int v5), (6, .int v6), (7, .int v7), (8, .int s0)] (r.toList ++ []) I' L' Q)) : XT (0, 0) Ln xs mL_nets 98 [(0, .ref 0), (1, .ref 49), (2, .ref 1000020), (3, .int v3), (4, .int v4), (5, .int v5), (6, .int v6), (7, .int v7)] [.int s0] I L Q := by
  refine x_istore [(0, .ref 0), (1, .ref 49), (2, .ref 1000020), (3, .int v3), (4, .int v4), (5, .int v5), (6, .int v6), (7, .int v7), (8, .int s0)] dL_nets_98 (Nat.le_of_ble_eq_true rfl) rfl ?_
  refine x_iload 7 dL_nets_100 rfl ?_
  refine x_iconst (v := (3 : Int32)) dL_nets_102 (by decide) ?_
  refine x_ishr dL_nets_103 ?_
  refine x_iload 4 dL_nets_104 rfl ?_
  exact xt_callS mL_part [.int (v7 >>> ((3 : Int32) &&& 31)), .int v4] [] 2 _ rfl dL_nets_106 ml_L_15 qL_part rfl ⟨Nat.le_of_ble_eq_true rfl, Nat.le_of_ble_eq_true rfl⟩ ⟨Nat.le_of_ble_eq_true rfl, Nat.le_of_ble_eq_true rfl⟩ ⟨rfl, rfl⟩ (Nat.le_of_ble_eq_true rfl) (Nat.le_of_ble_eq_true rfl) (K)
theorem bL_nets_109 {I : Nat → Nat → Int32} {L : Nat → Int64} {Q : Option Value → (Nat → Nat → Int32) → (Nat → Int64) → Prop} {Ln : Nat} {xs : Nat → Int32} {v3 : Int32} {v4 : Int32} {v5 : Int32} {v6 : Int32} {v7 : Int32} {v8 : Int32} {s0 : Int32}  (K : XS mL_part 0 [(0, .int (v7 >>> ((6 : Int32) &&& 31))), (1, .int (3 : Int32))] [] I L (fun r I' L' => XT (0, 0) Ln xs mL_nets 120 [(0, .ref 0), (1, .ref 49), (2, .ref 1000020), (3, .int v3), (4, .int v4), (5, .int v5), (6, .int v6), (7, .int v7), (8, .int v8), (9, .int s0)] (r.toList ++ []) I' L' Q)) : XT (0, 0) Ln xs mL_nets 109 [(0, .ref 0), (1, .ref 49), (2, .ref 1000020), (3, .int v3), (4, .int v4), (5, .int v5), (6, .int v6), (7, .int v7), (8, .int v8)] [.int s0] I L Q := by
  refine x_istore [(0, .ref 0), (1, .ref 49), (2, .ref 1000020), (3, .int v3), (4, .int v4), (5, .int v5), (6, .int v6), (7, .int v7), (8, .int v8), (9, .int s0)] dL_nets_109 (Nat.le_of_ble_eq_true rfl) rfl ?_
  refine x_iload 7 dL_nets_111 rfl ?_
  refine x_bipush (v := (6 : Int32)) dL_nets_113 (by decide) ?_
  refine x_ishr dL_nets_115 ?_
  refine x_iconst (v := (3 : Int32)) dL_nets_116 (by decide) ?_
  exact xt_callS mL_part [.int (v7 >>> ((6 : Int32) &&& 31)), .int (3 : Int32)] [] 2 _ rfl dL_nets_117 ml_L_15 qL_part rfl ⟨Nat.le_of_ble_eq_true rfl, Nat.le_of_ble_eq_true rfl⟩ ⟨Nat.le_of_ble_eq_true rfl, Nat.le_of_ble_eq_true rfl⟩ ⟨rfl, rfl⟩ (Nat.le_of_ble_eq_true rfl) (Nat.le_of_ble_eq_true rfl) (K)
theorem bL_nets_120 {I : Nat → Nat → Int32} {L : Nat → Int64} {Q : Option Value → (Nat → Nat → Int32) → (Nat → Int64) → Prop} {Ln : Nat} {xs : Nat → Int32} {v3 : Int32} {v4 : Int32} {v5 : Int32} {v6 : Int32} {v7 : Int32} {v8 : Int32} {v9 : Int32} {s0 : Int32}  (K1 : (s0 ≤ 0) → XT (0, 0) Ln xs mL_nets 132 [(0, .ref 0), (1, .ref 49), (2, .ref 1000020), (3, .int v3), (4, .int v4), (5, .int v5), (6, .int v6), (7, .int v7), (8, .int v8), (9, .int v9)] [] I L Q) (K2 : (¬ s0 ≤ 0) → XT (0, 0) Ln xs mL_nets 123 [(0, .ref 0), (1, .ref 49), (2, .ref 1000020), (3, .int v3), (4, .int v4), (5, .int v5), (6, .int v6), (7, .int v7), (8, .int v8)] [] I L Q) : XT (0, 0) Ln xs mL_nets 120 [(0, .ref 0), (1, .ref 49), (2, .ref 1000020), (3, .int v3), (4, .int v4), (5, .int v5), (6, .int v6), (7, .int v7), (8, .int v8), (9, .int v9)] [.int s0] I L Q := by
  exact x_if_le 132 dL_nets_120 (by decide) (fun h => K1 h) (fun h => x_sub [0, 1, 2, 3, 4, 5, 6, 7, 8] rfl (K2 h))
theorem bL_nets_123 {I : Nat → Nat → Int32} {L : Nat → Int64} {Q : Option Value → (Nat → Nat → Int32) → (Nat → Int64) → Prop} {Ln : Nat} {xs : Nat → Int32} {v3 : Int32} {v4 : Int32} {v5 : Int32} {v6 : Int32} {v7 : Int32} {v8 : Int32} (hn1 : ¬ v4 = 0) (K : XT (0, 0) Ln xs mL_nets 132 [(0, .ref 0), (1, .ref 49), (2, .ref 1000020), (3, .int v3), (4, .int v4), (5, .int v5), (6, .int v6), (7, .int v7), (8, .int v8), (9, .int ((v8 + (1 : Int32)) - (v8 + (1 : Int32)) / v4 * v4))] [] I L Q) : XT (0, 0) Ln xs mL_nets 123 [(0, .ref 0), (1, .ref 49), (2, .ref 1000020), (3, .int v3), (4, .int v4), (5, .int v5), (6, .int v6), (7, .int v7), (8, .int v8)] [] I L Q := by
  refine x_iload 8 dL_nets_123 rfl ?_
  refine x_iconst (v := (1 : Int32)) dL_nets_125 (by decide) ?_
  refine x_iadd dL_nets_126 ?_
  refine x_iload 4 dL_nets_127 rfl ?_
  refine x_irem dL_nets_129 hn1 ?_
  refine x_istore [(0, .ref 0), (1, .ref 49), (2, .ref 1000020), (3, .int v3), (4, .int v4), (5, .int v5), (6, .int v6), (7, .int v7), (8, .int v8), (9, .int ((v8 + (1 : Int32)) - (v8 + (1 : Int32)) / v4 * v4))] dL_nets_130 (Nat.le_of_ble_eq_true rfl) rfl ?_
  exact K
theorem bL_nets_132 {I : Nat → Nat → Int32} {L : Nat → Int64} {Q : Option Value → (Nat → Nat → Int32) → (Nat → Int64) → Prop} {Ln : Nat} {xs : Nat → Int32} {v3 : Int32} {v4 : Int32} {v5 : Int32} {v6 : Int32} {v7 : Int32} {v8 : Int32} {v9 : Int32}  (K : XS mL_part 0 [(0, .int (v7 >>> ((20 : Int32) &&& 31))), (1, .int (2 : Int32))] [] I L (fun r I' L' => XT (0, 0) Ln xs mL_nets 147 [(0, .ref 0), (1, .ref 49), (2, .ref 1000020), (3, .int v3), (4, .int v4), (5, .int v5), (6, .int v6), (7, .int v7), (8, .int v8), (9, .int v9)] (r.toList ++ [.int (v7 >>> ((9 : Int32) &&& 31)), .int (1 : Int32)]) I' L' Q)) : XT (0, 0) Ln xs mL_nets 132 [(0, .ref 0), (1, .ref 49), (2, .ref 1000020), (3, .int v3), (4, .int v4), (5, .int v5), (6, .int v6), (7, .int v7), (8, .int v8), (9, .int v9)] [] I L Q := by
  refine x_iconst (v := (1 : Int32)) dL_nets_132 (by decide) ?_
  refine x_iload 7 dL_nets_133 rfl ?_
  refine x_bipush (v := (9 : Int32)) dL_nets_135 (by decide) ?_
  refine x_ishr dL_nets_137 ?_
  refine x_iload 7 dL_nets_138 rfl ?_
  refine x_bipush (v := (20 : Int32)) dL_nets_140 (by decide) ?_
  refine x_ishr dL_nets_142 ?_
  refine x_iconst (v := (2 : Int32)) dL_nets_143 (by decide) ?_
  exact xt_callS mL_part [.int (v7 >>> ((20 : Int32) &&& 31)), .int (2 : Int32)] [.int (v7 >>> ((9 : Int32) &&& 31)), .int (1 : Int32)] 2 _ rfl dL_nets_144 ml_L_15 qL_part rfl ⟨Nat.le_of_ble_eq_true rfl, Nat.le_of_ble_eq_true rfl⟩ ⟨Nat.le_of_ble_eq_true rfl, Nat.le_of_ble_eq_true rfl⟩ ⟨rfl, rfl⟩ (Nat.le_of_ble_eq_true rfl) (Nat.le_of_ble_eq_true rfl) (K)
theorem bL_nets_147 {I : Nat → Nat → Int32} {L : Nat → Int64} {Q : Option Value → (Nat → Nat → Int32) → (Nat → Int64) → Prop} {Ln : Nat} {xs : Nat → Int32} {v3 : Int32} {v4 : Int32} {v5 : Int32} {v6 : Int32} {v7 : Int32} {v8 : Int32} {v9 : Int32} {s0 : Int32} {s1 : Int32} {s2 : Int32}  (K1 : (¬ s2 = 0) → XT (0, 0) Ln xs mL_nets 155 [(0, .ref 0), (1, .ref 49), (2, .ref 1000020), (3, .int v3), (4, .int v4), (5, .int v5), (6, .int v6), (7, .int v7), (8, .int v8), (9, .int v9)] [.int s1, .int s0] I L Q) (K2 : (s2 = 0) → XT (0, 0) Ln xs mL_nets 150 [(0, .ref 0), (1, .ref 49), (2, .ref 1000020), (3, .int v3), (4, .int v4), (5, .int v5), (6, .int v6), (7, .int v7), (8, .int v8), (9, .int v9)] [.int s1, .int s0] I L Q) : XT (0, 0) Ln xs mL_nets 147 [(0, .ref 0), (1, .ref 49), (2, .ref 1000020), (3, .int v3), (4, .int v4), (5, .int v5), (6, .int v6), (7, .int v7), (8, .int v8), (9, .int v9)] [.int s2, .int s1, .int s0] I L Q := by
  exact x_if_ne 155 dL_nets_147 (by decide) (fun h => K1 h) (fun h => K2 h)
theorem bL_nets_150 {I : Nat → Nat → Int32} {L : Nat → Int64} {Q : Option Value → (Nat → Nat → Int32) → (Nat → Int64) → Prop} {Ln : Nat} {xs : Nat → Int32} {v3 : Int32} {v4 : Int32} {v5 : Int32} {v6 : Int32} {v7 : Int32} {v8 : Int32} {v9 : Int32} {s0 : Int32} {s1 : Int32}  (K : XT (0, 0) Ln xs mL_nets 156 [(0, .ref 0), (1, .ref 49), (2, .ref 1000020), (3, .int v3), (4, .int v4), (5, .int v5), (6, .int v6), (7, .int v7), (8, .int v8), (9, .int v9)] [.int (9 : Int32), .int s1, .int s0] I L Q) : XT (0, 0) Ln xs mL_nets 150 [(0, .ref 0), (1, .ref 49), (2, .ref 1000020), (3, .int v3), (4, .int v4), (5, .int v5), (6, .int v6), (7, .int v7), (8, .int v8), (9, .int v9)] [.int s1, .int s0] I L Q := by
  refine x_bipush (v := (9 : Int32)) dL_nets_150 (by decide) ?_
  exact x_goto 156 dL_nets_152 (by decide) (K)
theorem bL_nets_155 {I : Nat → Nat → Int32} {L : Nat → Int64} {Q : Option Value → (Nat → Nat → Int32) → (Nat → Int64) → Prop} {Ln : Nat} {xs : Nat → Int32} {v3 : Int32} {v4 : Int32} {v5 : Int32} {v6 : Int32} {v7 : Int32} {v8 : Int32} {v9 : Int32} {s0 : Int32} {s1 : Int32}  (K : XT (0, 0) Ln xs mL_nets 156 [(0, .ref 0), (1, .ref 49), (2, .ref 1000020), (3, .int v3), (4, .int v4), (5, .int v5), (6, .int v6), (7, .int v7), (8, .int v8), (9, .int v9)] [.int (3 : Int32), .int s1, .int s0] I L Q) : XT (0, 0) Ln xs mL_nets 155 [(0, .ref 0), (1, .ref 49), (2, .ref 1000020), (3, .int v3), (4, .int v4), (5, .int v5), (6, .int v6), (7, .int v7), (8, .int v8), (9, .int v9)] [.int s1, .int s0] I L Q := by
  refine x_iconst (v := (3 : Int32)) dL_nets_155 (by decide) ?_
  exact K
theorem bL_nets_156 {I : Nat → Nat → Int32} {L : Nat → Int64} {Q : Option Value → (Nat → Nat → Int32) → (Nat → Int64) → Prop} {Ln : Nat} {xs : Nat → Int32} {v3 : Int32} {v4 : Int32} {v5 : Int32} {v6 : Int32} {v7 : Int32} {v8 : Int32} {v9 : Int32} {s0 : Int32} {s1 : Int32} {s2 : Int32}  (K : XS mL_part 0 [(0, .int s1), (1, .int s2)] [] I L (fun r I' L' => XT (0, 0) Ln xs mL_nets 159 [(0, .ref 0), (1, .ref 49), (2, .ref 1000020), (3, .int v3), (4, .int v4), (5, .int v5), (6, .int v6), (7, .int v7), (8, .int v8), (9, .int v9)] (r.toList ++ [.int s0]) I' L' Q)) : XT (0, 0) Ln xs mL_nets 156 [(0, .ref 0), (1, .ref 49), (2, .ref 1000020), (3, .int v3), (4, .int v4), (5, .int v5), (6, .int v6), (7, .int v7), (8, .int v8), (9, .int v9)] [.int s2, .int s1, .int s0] I L Q := by
  exact xt_callS mL_part [.int s1, .int s2] [.int s0] 2 _ rfl dL_nets_156 ml_L_15 qL_part rfl ⟨Nat.le_of_ble_eq_true rfl, Nat.le_of_ble_eq_true rfl⟩ ⟨Nat.le_of_ble_eq_true rfl, Nat.le_of_ble_eq_true rfl⟩ ⟨rfl, rfl⟩ (Nat.le_of_ble_eq_true rfl) (Nat.le_of_ble_eq_true rfl) (K)
theorem bL_nets_159 {I : Nat → Nat → Int32} {L : Nat → Int64} {Q : Option Value → (Nat → Nat → Int32) → (Nat → Int64) → Prop} {Ln : Nat} {xs : Nat → Int32} {v3 : Int32} {v4 : Int32} {v5 : Int32} {v6 : Int32} {v7 : Int32} {v8 : Int32} {v9 : Int32} {s0 : Int32} {s1 : Int32}  (K : XS mL_part 0 [(0, .int (v7 >>> ((21 : Int32) &&& 31))), (1, .int (2 : Int32))] [] I L (fun r I' L' => XT (0, 0) Ln xs mL_nets 177 [(0, .ref 0), (1, .ref 49), (2, .ref 1000020), (3, .int v3), (4, .int v4), (5, .int v5), (6, .int v6), (8, .int v8), (9, .int v9), (10, .int (s0 + s1))] (r.toList ++ [.int (v7 >>> ((13 : Int32) &&& 31)), .int (1 : Int32)]) I' L' Q)) : XT (0, 0) Ln xs mL_nets 159 [(0, .ref 0), (1, .ref 49), (2, .ref 1000020), (3, .int v3), (4, .int v4), (5, .int v5), (6, .int v6), (7, .int v7), (8, .int v8), (9, .int v9)] [.int s1, .int s0] I L Q := by
  refine x_iadd dL_nets_159 ?_
  refine x_istore [(0, .ref 0), (1, .ref 49), (2, .ref 1000020), (3, .int v3), (4, .int v4), (5, .int v5), (6, .int v6), (7, .int v7), (8, .int v8), (9, .int v9), (10, .int (s0 + s1))] dL_nets_160 (Nat.le_of_ble_eq_true rfl) rfl ?_
  refine x_iconst (v := (1 : Int32)) dL_nets_162 (by decide) ?_
  refine x_iload 7 dL_nets_163 rfl ?_
  refine x_bipush (v := (13 : Int32)) dL_nets_165 (by decide) ?_
  refine x_ishr dL_nets_167 ?_
  refine x_iload 7 dL_nets_168 rfl ?_
  refine x_bipush (v := (21 : Int32)) dL_nets_170 (by decide) ?_
  refine x_ishr dL_nets_172 ?_
  refine x_iconst (v := (2 : Int32)) dL_nets_173 (by decide) ?_
  refine x_sub [0, 1, 2, 3, 4, 5, 6, 8, 9, 10] rfl ?_
  exact xt_callS mL_part [.int (v7 >>> ((21 : Int32) &&& 31)), .int (2 : Int32)] [.int (v7 >>> ((13 : Int32) &&& 31)), .int (1 : Int32)] 2 _ rfl dL_nets_174 ml_L_15 qL_part rfl ⟨Nat.le_of_ble_eq_true rfl, Nat.le_of_ble_eq_true rfl⟩ ⟨Nat.le_of_ble_eq_true rfl, Nat.le_of_ble_eq_true rfl⟩ ⟨rfl, rfl⟩ (Nat.le_of_ble_eq_true rfl) (Nat.le_of_ble_eq_true rfl) (K)
theorem bL_nets_177 {I : Nat → Nat → Int32} {L : Nat → Int64} {Q : Option Value → (Nat → Nat → Int32) → (Nat → Int64) → Prop} {Ln : Nat} {xs : Nat → Int32} {v3 : Int32} {v4 : Int32} {v5 : Int32} {v6 : Int32} {v8 : Int32} {v9 : Int32} {v10 : Int32} {s0 : Int32} {s1 : Int32} {s2 : Int32}  (K1 : (¬ s2 = 0) → XT (0, 0) Ln xs mL_nets 185 [(0, .ref 0), (1, .ref 49), (2, .ref 1000020), (3, .int v3), (4, .int v4), (5, .int v5), (6, .int v6), (8, .int v8), (9, .int v9), (10, .int v10)] [.int s1, .int s0] I L Q) (K2 : (s2 = 0) → XT (0, 0) Ln xs mL_nets 180 [(0, .ref 0), (1, .ref 49), (2, .ref 1000020), (3, .int v3), (4, .int v4), (5, .int v5), (6, .int v6), (8, .int v8), (9, .int v9), (10, .int v10)] [.int s1, .int s0] I L Q) : XT (0, 0) Ln xs mL_nets 177 [(0, .ref 0), (1, .ref 49), (2, .ref 1000020), (3, .int v3), (4, .int v4), (5, .int v5), (6, .int v6), (8, .int v8), (9, .int v9), (10, .int v10)] [.int s2, .int s1, .int s0] I L Q := by
  exact x_if_ne 185 dL_nets_177 (by decide) (fun h => K1 h) (fun h => K2 h)
theorem bL_nets_180 {I : Nat → Nat → Int32} {L : Nat → Int64} {Q : Option Value → (Nat → Nat → Int32) → (Nat → Int64) → Prop} {Ln : Nat} {xs : Nat → Int32} {v3 : Int32} {v4 : Int32} {v5 : Int32} {v6 : Int32} {v8 : Int32} {v9 : Int32} {v10 : Int32} {s0 : Int32} {s1 : Int32}  (K : XT (0, 0) Ln xs mL_nets 186 [(0, .ref 0), (1, .ref 49), (2, .ref 1000020), (3, .int v3), (4, .int v4), (5, .int v5), (6, .int v6), (8, .int v8), (9, .int v9), (10, .int v10)] [.int (9 : Int32), .int s1, .int s0] I L Q) : XT (0, 0) Ln xs mL_nets 180 [(0, .ref 0), (1, .ref 49), (2, .ref 1000020), (3, .int v3), (4, .int v4), (5, .int v5), (6, .int v6), (8, .int v8), (9, .int v9), (10, .int v10)] [.int s1, .int s0] I L Q := by
  refine x_bipush (v := (9 : Int32)) dL_nets_180 (by decide) ?_
  exact x_goto 186 dL_nets_182 (by decide) (K)
theorem bL_nets_185 {I : Nat → Nat → Int32} {L : Nat → Int64} {Q : Option Value → (Nat → Nat → Int32) → (Nat → Int64) → Prop} {Ln : Nat} {xs : Nat → Int32} {v3 : Int32} {v4 : Int32} {v5 : Int32} {v6 : Int32} {v8 : Int32} {v9 : Int32} {v10 : Int32} {s0 : Int32} {s1 : Int32}  (K : XT (0, 0) Ln xs mL_nets 186 [(0, .ref 0), (1, .ref 49), (2, .ref 1000020), (3, .int v3), (4, .int v4), (5, .int v5), (6, .int v6), (8, .int v8), (9, .int v9), (10, .int v10)] [.int (3 : Int32), .int s1, .int s0] I L Q) : XT (0, 0) Ln xs mL_nets 185 [(0, .ref 0), (1, .ref 49), (2, .ref 1000020), (3, .int v3), (4, .int v4), (5, .int v5), (6, .int v6), (8, .int v8), (9, .int v9), (10, .int v10)] [.int s1, .int s0] I L Q := by
  refine x_iconst (v := (3 : Int32)) dL_nets_185 (by decide) ?_
  exact K
theorem bL_nets_186 {I : Nat → Nat → Int32} {L : Nat → Int64} {Q : Option Value → (Nat → Nat → Int32) → (Nat → Int64) → Prop} {Ln : Nat} {xs : Nat → Int32} {v3 : Int32} {v4 : Int32} {v5 : Int32} {v6 : Int32} {v8 : Int32} {v9 : Int32} {v10 : Int32} {s0 : Int32} {s1 : Int32} {s2 : Int32}  (K : XS mL_part 0 [(0, .int s1), (1, .int s2)] [] I L (fun r I' L' => XT (0, 0) Ln xs mL_nets 189 [(0, .ref 0), (1, .ref 49), (2, .ref 1000020), (3, .int v3), (4, .int v4), (5, .int v5), (6, .int v6), (8, .int v8), (9, .int v9), (10, .int v10)] (r.toList ++ [.int s0]) I' L' Q)) : XT (0, 0) Ln xs mL_nets 186 [(0, .ref 0), (1, .ref 49), (2, .ref 1000020), (3, .int v3), (4, .int v4), (5, .int v5), (6, .int v6), (8, .int v8), (9, .int v9), (10, .int v10)] [.int s2, .int s1, .int s0] I L Q := by
  exact xt_callS mL_part [.int s1, .int s2] [.int s0] 2 _ rfl dL_nets_186 ml_L_15 qL_part rfl ⟨Nat.le_of_ble_eq_true rfl, Nat.le_of_ble_eq_true rfl⟩ ⟨Nat.le_of_ble_eq_true rfl, Nat.le_of_ble_eq_true rfl⟩ ⟨rfl, rfl⟩ (Nat.le_of_ble_eq_true rfl) (Nat.le_of_ble_eq_true rfl) (K)
theorem bL_nets_189 {I : Nat → Nat → Int32} {L : Nat → Int64} {Q : Option Value → (Nat → Nat → Int32) → (Nat → Int64) → Prop} {Ln : Nat} {xs : Nat → Int32} {v3 : Int32} {v4 : Int32} {v5 : Int32} {v6 : Int32} {v8 : Int32} {v9 : Int32} {v10 : Int32} {s0 : Int32} {s1 : Int32}  (K1 : (¬ v8 = v9) → XT (0, 0) Ln xs mL_nets 202 [(0, .ref 0), (1, .ref 49), (2, .ref 1000020), (3, .int v3), (4, .int v4), (5, .int v5), (6, .int v6), (8, .int v8), (9, .int v9), (10, .int v10), (11, .int (s0 + s1))] [] I L Q) (K2 : (v8 = v9) → XT (0, 0) Ln xs mL_nets 199 [(0, .ref 0), (1, .ref 49), (2, .ref 1000020), (3, .int v3), (4, .int v4), (5, .int v5), (6, .int v6)] [] I L Q) : XT (0, 0) Ln xs mL_nets 189 [(0, .ref 0), (1, .ref 49), (2, .ref 1000020), (3, .int v3), (4, .int v4), (5, .int v5), (6, .int v6), (8, .int v8), (9, .int v9), (10, .int v10)] [.int s1, .int s0] I L Q := by
  refine x_iadd dL_nets_189 ?_
  refine x_istore [(0, .ref 0), (1, .ref 49), (2, .ref 1000020), (3, .int v3), (4, .int v4), (5, .int v5), (6, .int v6), (8, .int v8), (9, .int v9), (10, .int v10), (11, .int (s0 + s1))] dL_nets_190 (Nat.le_of_ble_eq_true rfl) rfl ?_
  refine x_iload 7 dL_nets_192 rfl ?_
  refine x_iload 8 dL_nets_194 rfl ?_
  exact x_icmp_ne 202 dL_nets_196 (by decide) (fun h => K1 h) (fun h => x_sub [0, 1, 2, 3, 4, 5, 6] rfl (K2 h))
theorem bL_nets_199 {I : Nat → Nat → Int32} {L : Nat → Int64} {Q : Option Value → (Nat → Nat → Int32) → (Nat → Int64) → Prop} {Ln : Nat} {xs : Nat → Int32} {v3 : Int32} {v4 : Int32} {v5 : Int32} {v6 : Int32}  (K : XT (0, 0) Ln xs mL_nets 341 [(0, .ref 0), (1, .ref 49), (2, .ref 1000020), (3, .int v3), (4, .int v4), (5, .int v5), (6, .int v6)] [] I L Q) : XT (0, 0) Ln xs mL_nets 199 [(0, .ref 0), (1, .ref 49), (2, .ref 1000020), (3, .int v3), (4, .int v4), (5, .int v5), (6, .int v6)] [] I L Q := by
  exact x_goto 341 dL_nets_199 (by decide) (K)
theorem bL_nets_202 {I : Nat → Nat → Int32} {L : Nat → Int64} {Q : Option Value → (Nat → Nat → Int32) → (Nat → Int64) → Prop} {Ln : Nat} {xs : Nat → Int32} {v3 : Int32} {v4 : Int32} {v5 : Int32} {v6 : Int32} {v8 : Int32} {v9 : Int32} {v10 : Int32} {v11 : Int32}  (K : XS mL_says 0 [(0, .ref 0), (1, .int (59 : Int32)), (2, .int (108 : Int32)), (3, .int (105 : Int32)), (4, .int (110 : Int32))] [] I L (fun r I' L' => XT (0, 0) Ln xs mL_nets 214 [(0, .ref 0), (1, .ref 49), (2, .ref 1000020), (3, .int v3), (4, .int v4), (5, .int v5), (6, .int v6), (8, .int v8), (9, .int v9), (10, .int v10), (11, .int v11)] (r.toList ++ []) I' L' Q)) : XT (0, 0) Ln xs mL_nets 202 [(0, .ref 0), (1, .ref 49), (2, .ref 1000020), (3, .int v3), (4, .int v4), (5, .int v5), (6, .int v6), (8, .int v8), (9, .int v9), (10, .int v10), (11, .int v11)] [] I L Q := by
  refine x_aload_n 0 dL_nets_202 rfl rfl ?_
  refine x_bipush (v := (59 : Int32)) dL_nets_203 (by decide) ?_
  refine x_bipush (v := (108 : Int32)) dL_nets_205 (by decide) ?_
  refine x_bipush (v := (105 : Int32)) dL_nets_207 (by decide) ?_
  refine x_bipush (v := (110 : Int32)) dL_nets_209 (by decide) ?_
  exact xt_callS mL_says [.ref 0, .int (59 : Int32), .int (108 : Int32), .int (105 : Int32), .int (110 : Int32)] [] 5 _ rfl dL_nets_211 ml_L_25 qL_says rfl ⟨Nat.le_of_ble_eq_true rfl, Nat.le_of_ble_eq_true rfl⟩ ⟨Nat.le_of_ble_eq_true rfl, Nat.le_of_ble_eq_true rfl⟩ ⟨rfl, rfl⟩ (Nat.le_of_ble_eq_true rfl) (Nat.le_of_ble_eq_true rfl) (K)
theorem bL_nets_214 {I : Nat → Nat → Int32} {L : Nat → Int64} {Q : Option Value → (Nat → Nat → Int32) → (Nat → Int64) → Prop} {Ln : Nat} {xs : Nat → Int32} {v3 : Int32} {v4 : Int32} {v5 : Int32} {v6 : Int32} {v8 : Int32} {v9 : Int32} {v10 : Int32} {v11 : Int32}  (K : XS mL_says 0 [(0, .ref 0), (1, .int (107 : Int32)), (2, .int ((48 : Int32) + v8)), (3, .int (32 : Int32)), (4, .int ((48 : Int32) + v9))] [] I L (fun r I' L' => XT (0, 0) Ln xs mL_nets 232 [(0, .ref 0), (1, .ref 49), (2, .ref 1000020), (3, .int v3), (4, .int v4), (5, .int v5), (6, .int v6), (8, .int v8), (9, .int v9), (10, .int v10), (11, .int v11)] (r.toList ++ []) I' L' Q)) : XT (0, 0) Ln xs mL_nets 214 [(0, .ref 0), (1, .ref 49), (2, .ref 1000020), (3, .int v3), (4, .int v4), (5, .int v5), (6, .int v6), (8, .int v8), (9, .int v9), (10, .int v10), (11, .int v11)] [] I L Q := by
  refine x_aload_n 0 dL_nets_214 rfl rfl ?_
  refine x_bipush (v := (107 : Int32)) dL_nets_215 (by decide) ?_
  refine x_bipush (v := (48 : Int32)) dL_nets_217 (by decide) ?_
  refine x_iload 7 dL_nets_219 rfl ?_
  refine x_iadd dL_nets_221 ?_
  refine x_bipush (v := (32 : Int32)) dL_nets_222 (by decide) ?_
  refine x_bipush (v := (48 : Int32)) dL_nets_224 (by decide) ?_
  refine x_iload 8 dL_nets_226 rfl ?_
  refine x_iadd dL_nets_228 ?_
  exact xt_callS mL_says [.ref 0, .int (107 : Int32), .int ((48 : Int32) + v8), .int (32 : Int32), .int ((48 : Int32) + v9)] [] 5 _ rfl dL_nets_229 ml_L_25 qL_says rfl ⟨Nat.le_of_ble_eq_true rfl, Nat.le_of_ble_eq_true rfl⟩ ⟨Nat.le_of_ble_eq_true rfl, Nat.le_of_ble_eq_true rfl⟩ ⟨rfl, rfl⟩ (Nat.le_of_ble_eq_true rfl) (Nat.le_of_ble_eq_true rfl) (K)
theorem bL_nets_232 {I : Nat → Nat → Int32} {L : Nat → Int64} {Q : Option Value → (Nat → Nat → Int32) → (Nat → Int64) → Prop} {Ln : Nat} {xs : Nat → Int32} {v3 : Int32} {v4 : Int32} {v5 : Int32} {v6 : Int32} {v8 : Int32} {v9 : Int32} {v10 : Int32} {v11 : Int32}  (K : XS mL_says 0 [(0, .ref 0), (1, .int (32 : Int32)), (2, .int ((48 : Int32) + v10)), (3, .int (32 : Int32)), (4, .int ((48 : Int32) + v11))] [] I L (fun r I' L' => XT (0, 0) Ln xs mL_nets 250 [(0, .ref 0), (1, .ref 49), (2, .ref 1000020), (3, .int v3), (4, .int v4), (5, .int v5), (6, .int v6), (8, .int v8), (9, .int v9), (10, .int v10), (11, .int v11)] (r.toList ++ []) I' L' Q)) : XT (0, 0) Ln xs mL_nets 232 [(0, .ref 0), (1, .ref 49), (2, .ref 1000020), (3, .int v3), (4, .int v4), (5, .int v5), (6, .int v6), (8, .int v8), (9, .int v9), (10, .int v10), (11, .int v11)] [] I L Q := by
  refine x_aload_n 0 dL_nets_232 rfl rfl ?_
  refine x_bipush (v := (32 : Int32)) dL_nets_233 (by decide) ?_
  refine x_bipush (v := (48 : Int32)) dL_nets_235 (by decide) ?_
  refine x_iload 9 dL_nets_237 rfl ?_
  refine x_iadd dL_nets_239 ?_
  refine x_bipush (v := (32 : Int32)) dL_nets_240 (by decide) ?_
  refine x_bipush (v := (48 : Int32)) dL_nets_242 (by decide) ?_
  refine x_iload 10 dL_nets_244 rfl ?_
  refine x_iadd dL_nets_246 ?_
  exact xt_callS mL_says [.ref 0, .int (32 : Int32), .int ((48 : Int32) + v10), .int (32 : Int32), .int ((48 : Int32) + v11)] [] 5 _ rfl dL_nets_247 ml_L_25 qL_says rfl ⟨Nat.le_of_ble_eq_true rfl, Nat.le_of_ble_eq_true rfl⟩ ⟨Nat.le_of_ble_eq_true rfl, Nat.le_of_ble_eq_true rfl⟩ ⟨rfl, rfl⟩ (Nat.le_of_ble_eq_true rfl) (Nat.le_of_ble_eq_true rfl) (K)
theorem bL_nets_250 {I : Nat → Nat → Int32} {L : Nat → Int64} {Q : Option Value → (Nat → Nat → Int32) → (Nat → Int64) → Prop} {Ln : Nat} {xs : Nat → Int32} {v3 : Int32} {v4 : Int32} {v5 : Int32} {v6 : Int32} {v8 : Int32} {v9 : Int32} {v10 : Int32} {v11 : Int32}  (K : XS mL_linkOf 0 [(0, .ref 49), (1, .int v8), (2, .int v9)] [] I L (fun r I' L' => XT (0, 0) Ln xs mL_nets 258 [(0, .ref 0), (1, .ref 49), (2, .ref 1000020), (3, .int v3), (4, .int v4), (5, .int v5), (6, .int v6), (8, .int v8), (9, .int v9), (10, .int v10), (11, .int v11)] (r.toList ++ []) I' L' Q)) : XT (0, 0) Ln xs mL_nets 250 [(0, .ref 0), (1, .ref 49), (2, .ref 1000020), (3, .int v3), (4, .int v4), (5, .int v5), (6, .int v6), (8, .int v8), (9, .int v9), (10, .int v10), (11, .int v11)] [] I L Q := by
  refine x_aload_n 1 dL_nets_250 rfl rfl ?_
  refine x_iload 7 dL_nets_251 rfl ?_
  refine x_iload 8 dL_nets_253 rfl ?_
  exact xt_callS mL_linkOf [.ref 49, .int v8, .int v9] [] 3 _ rfl dL_nets_255 ml_L_29 qL_linkOf rfl ⟨Nat.le_of_ble_eq_true rfl, Nat.le_of_ble_eq_true rfl⟩ ⟨Nat.le_of_ble_eq_true rfl, Nat.le_of_ble_eq_true rfl⟩ ⟨rfl, rfl⟩ (Nat.le_of_ble_eq_true rfl) (Nat.le_of_ble_eq_true rfl) (K)
theorem bL_nets_258 {I : Nat → Nat → Int32} {L : Nat → Int64} {Q : Option Value → (Nat → Nat → Int32) → (Nat → Int64) → Prop} {Ln : Nat} {xs : Nat → Int32} {v3 : Int32} {v4 : Int32} {v5 : Int32} {v6 : Int32} {v8 : Int32} {v9 : Int32} {v10 : Int32} {v11 : Int32} {s0 : Int32}  (K1 : (0 ≤ s0) → XT (0, 0) Ln xs mL_nets 321 [(0, .ref 0), (1, .ref 49), (2, .ref 1000020), (3, .int v3), (4, .int v4), (5, .int v5), (6, .int v6), (10, .int v10), (11, .int v11), (12, .int s0)] [] I L Q) (K2 : (¬ 0 ≤ s0) → XT (0, 0) Ln xs mL_nets 265 [(0, .ref 0), (1, .ref 49), (2, .ref 1000020), (3, .int v3), (4, .int v4), (5, .int v5), (6, .int v6), (8, .int v8), (9, .int v9), (10, .int v10), (11, .int v11)] [] I L Q) : XT (0, 0) Ln xs mL_nets 258 [(0, .ref 0), (1, .ref 49), (2, .ref 1000020), (3, .int v3), (4, .int v4), (5, .int v5), (6, .int v6), (8, .int v8), (9, .int v9), (10, .int v10), (11, .int v11)] [.int s0] I L Q := by
  refine x_istore [(0, .ref 0), (1, .ref 49), (2, .ref 1000020), (3, .int v3), (4, .int v4), (5, .int v5), (6, .int v6), (8, .int v8), (9, .int v9), (10, .int v10), (11, .int v11), (12, .int s0)] dL_nets_258 (Nat.le_of_ble_eq_true rfl) rfl ?_
  refine x_iload 11 dL_nets_260 rfl ?_
  exact x_if_ge 321 dL_nets_262 (by decide) (fun h => x_sub [0, 1, 2, 3, 4, 5, 6, 9, 10, 11] rfl (K1 h)) (fun h => x_sub [0, 1, 2, 3, 4, 5, 6, 7, 8, 9, 10] rfl (K2 h))
theorem bL_nets_265 {I : Nat → Nat → Int32} {L : Nat → Int64} {Q : Option Value → (Nat → Nat → Int32) → (Nat → Int64) → Prop} {Ln : Nat} {xs : Nat → Int32} {v3 : Int32} {v4 : Int32} {v5 : Int32} {v6 : Int32} {v8 : Int32} {v9 : Int32} {v10 : Int32} {v11 : Int32}  (K1 : (v9 ≤ v8) → XT (0, 0) Ln xs mL_nets 296 [(0, .ref 0), (1, .ref 49), (2, .ref 1000020), (3, .int v3), (4, .int v4), (5, .int v5), (6, .int v6), (8, .int v8), (9, .int v9), (10, .int v10), (11, .int v11), (12, .int (I 3136 1))] [.int ((2 : Int32) + ((4 : Int32) * (I 3136 1))), .ref 49] (x_up I 3136 1 ((I 3136 1) + (1 : Int32))) L Q) (K2 : (¬ v9 ≤ v8) → XT (0, 0) Ln xs mL_nets 291 [(0, .ref 0), (1, .ref 49), (2, .ref 1000020), (3, .int v3), (4, .int v4), (5, .int v5), (6, .int v6), (8, .int v8), (9, .int v9), (10, .int v10), (11, .int v11), (12, .int (I 3136 1))] [.int ((2 : Int32) + ((4 : Int32) * (I 3136 1))), .ref 49] (x_up I 3136 1 ((I 3136 1) + (1 : Int32))) L Q) : XT (0, 0) Ln xs mL_nets 265 [(0, .ref 0), (1, .ref 49), (2, .ref 1000020), (3, .int v3), (4, .int v4), (5, .int v5), (6, .int v6), (8, .int v8), (9, .int v9), (10, .int v10), (11, .int v11)] [] I L Q := by
  refine x_aload_n 1 dL_nets_265 rfl rfl ?_
  refine x_iconst (v := (1 : Int32)) dL_nets_266 (by decide) ?_
  refine xt_iald 3136 (1) dL_nets_267 sh_49 rfl (by decide) (x_vpin (by decide)) ?_
  refine x_istore [(0, .ref 0), (1, .ref 49), (2, .ref 1000020), (3, .int v3), (4, .int v4), (5, .int v5), (6, .int v6), (8, .int v8), (9, .int v9), (10, .int v10), (11, .int v11), (12, .int (I 3136 1))] dL_nets_268 (Nat.le_of_ble_eq_true rfl) rfl ?_
  refine x_aload_n 1 dL_nets_270 rfl rfl ?_
  refine x_iconst (v := (1 : Int32)) dL_nets_271 (by decide) ?_
  refine x_dup2 dL_nets_272 rfl rfl ?_
  refine xt_iald 3136 (1) dL_nets_273 sh_49 rfl (by decide) (x_vpin (by decide)) ?_
  refine x_iconst (v := (1 : Int32)) dL_nets_274 (by decide) ?_
  refine x_iadd dL_nets_275 ?_
  refine xt_iast 3136 (1) dL_nets_276 sh_49 rfl (by decide) (x_vpin (by decide)) ?_
  refine x_aload_n 1 dL_nets_277 rfl rfl ?_
  refine x_iconst (v := (2 : Int32)) dL_nets_278 (by decide) ?_
  refine x_iconst (v := (4 : Int32)) dL_nets_279 (by decide) ?_
  refine x_iload 11 dL_nets_280 rfl ?_
  refine x_imul dL_nets_282 ?_
  refine x_iadd dL_nets_283 ?_
  refine x_iload 7 dL_nets_284 rfl ?_
  refine x_iload 8 dL_nets_286 rfl ?_
  exact x_icmp_ge 296 dL_nets_288 (by decide) (fun h => K1 h) (fun h => K2 h)
theorem bL_nets_291 {I : Nat → Nat → Int32} {L : Nat → Int64} {Q : Option Value → (Nat → Nat → Int32) → (Nat → Int64) → Prop} {Ln : Nat} {xs : Nat → Int32} {v3 : Int32} {v4 : Int32} {v5 : Int32} {v6 : Int32} {v8 : Int32} {v9 : Int32} {v10 : Int32} {v11 : Int32} {v12 : Int32} {s1 : Int32}  (K : XT (0, 0) Ln xs mL_nets 298 [(0, .ref 0), (1, .ref 49), (2, .ref 1000020), (3, .int v3), (4, .int v4), (5, .int v5), (6, .int v6), (8, .int v8), (9, .int v9), (10, .int v10), (11, .int v11), (12, .int v12)] [.int v8, .int s1, .ref 49] I L Q) : XT (0, 0) Ln xs mL_nets 291 [(0, .ref 0), (1, .ref 49), (2, .ref 1000020), (3, .int v3), (4, .int v4), (5, .int v5), (6, .int v6), (8, .int v8), (9, .int v9), (10, .int v10), (11, .int v11), (12, .int v12)] [.int s1, .ref 49] I L Q := by
  refine x_iload 7 dL_nets_291 rfl ?_
  exact x_goto 298 dL_nets_293 (by decide) (K)
theorem bL_nets_296 {I : Nat → Nat → Int32} {L : Nat → Int64} {Q : Option Value → (Nat → Nat → Int32) → (Nat → Int64) → Prop} {Ln : Nat} {xs : Nat → Int32} {v3 : Int32} {v4 : Int32} {v5 : Int32} {v6 : Int32} {v8 : Int32} {v9 : Int32} {v10 : Int32} {v11 : Int32} {v12 : Int32} {s1 : Int32}  (K : XT (0, 0) Ln xs mL_nets 298 [(0, .ref 0), (1, .ref 49), (2, .ref 1000020), (3, .int v3), (4, .int v4), (5, .int v5), (6, .int v6), (8, .int v8), (9, .int v9), (10, .int v10), (11, .int v11), (12, .int v12)] [.int v9, .int s1, .ref 49] I L Q) : XT (0, 0) Ln xs mL_nets 296 [(0, .ref 0), (1, .ref 49), (2, .ref 1000020), (3, .int v3), (4, .int v4), (5, .int v5), (6, .int v6), (8, .int v8), (9, .int v9), (10, .int v10), (11, .int v11), (12, .int v12)] [.int s1, .ref 49] I L Q := by
  refine x_iload 8 dL_nets_296 rfl ?_
  exact K
theorem bL_nets_298 {I : Nat → Nat → Int32} {L : Nat → Int64} {Q : Option Value → (Nat → Nat → Int32) → (Nat → Int64) → Prop} {Ln : Nat} {xs : Nat → Int32} {v3 : Int32} {v4 : Int32} {v5 : Int32} {v6 : Int32} {v8 : Int32} {v9 : Int32} {v10 : Int32} {v11 : Int32} {v12 : Int32} {s1 : Int32} {s2 : Int32} (hb1 : vp_in s1 64) (K1 : (v9 ≤ v8) → XT (0, 0) Ln xs mL_nets 318 [(0, .ref 0), (1, .ref 49), (2, .ref 1000020), (3, .int v3), (4, .int v4), (5, .int v5), (6, .int v6), (8, .int v8), (10, .int v10), (11, .int v11), (12, .int v12)] [.int ((3 : Int32) + ((4 : Int32) * v12)), .ref 49] (x_up I 3136 (s1.toNatClampNeg) s2) L Q) (K2 : (¬ v9 ≤ v8) → XT (0, 0) Ln xs mL_nets 313 [(0, .ref 0), (1, .ref 49), (2, .ref 1000020), (3, .int v3), (4, .int v4), (5, .int v5), (6, .int v6), (9, .int v9), (10, .int v10), (11, .int v11), (12, .int v12)] [.int ((3 : Int32) + ((4 : Int32) * v12)), .ref 49] (x_up I 3136 (s1.toNatClampNeg) s2) L Q) : XT (0, 0) Ln xs mL_nets 298 [(0, .ref 0), (1, .ref 49), (2, .ref 1000020), (3, .int v3), (4, .int v4), (5, .int v5), (6, .int v6), (8, .int v8), (9, .int v9), (10, .int v10), (11, .int v11), (12, .int v12)] [.int s2, .int s1, .ref 49] I L Q := by
  refine xt_iast 3136 (s1.toNatClampNeg) dL_nets_298 sh_49 rfl rfl hb1 ?_
  refine x_aload_n 1 dL_nets_299 rfl rfl ?_
  refine x_iconst (v := (3 : Int32)) dL_nets_300 (by decide) ?_
  refine x_iconst (v := (4 : Int32)) dL_nets_301 (by decide) ?_
  refine x_iload 11 dL_nets_302 rfl ?_
  refine x_imul dL_nets_304 ?_
  refine x_iadd dL_nets_305 ?_
  refine x_iload 7 dL_nets_306 rfl ?_
  refine x_iload 8 dL_nets_308 rfl ?_
  exact x_icmp_ge 318 dL_nets_310 (by decide) (fun h => x_sub [0, 1, 2, 3, 4, 5, 6, 7, 9, 10, 11] rfl (K1 h)) (fun h => x_sub [0, 1, 2, 3, 4, 5, 6, 8, 9, 10, 11] rfl (K2 h))
theorem bL_nets_313 {I : Nat → Nat → Int32} {L : Nat → Int64} {Q : Option Value → (Nat → Nat → Int32) → (Nat → Int64) → Prop} {Ln : Nat} {xs : Nat → Int32} {v3 : Int32} {v4 : Int32} {v5 : Int32} {v6 : Int32} {v9 : Int32} {v10 : Int32} {v11 : Int32} {v12 : Int32} {s1 : Int32}  (K : XT (0, 0) Ln xs mL_nets 320 [(0, .ref 0), (1, .ref 49), (2, .ref 1000020), (3, .int v3), (4, .int v4), (5, .int v5), (6, .int v6), (10, .int v10), (11, .int v11), (12, .int v12)] [.int v9, .int s1, .ref 49] I L Q) : XT (0, 0) Ln xs mL_nets 313 [(0, .ref 0), (1, .ref 49), (2, .ref 1000020), (3, .int v3), (4, .int v4), (5, .int v5), (6, .int v6), (9, .int v9), (10, .int v10), (11, .int v11), (12, .int v12)] [.int s1, .ref 49] I L Q := by
  refine x_iload 7 dL_nets_313 rfl ?_
  exact x_goto 320 dL_nets_315 (by decide) (x_sub [0, 1, 2, 3, 4, 5, 6, 8, 9, 10] rfl (K))
theorem bL_nets_318 {I : Nat → Nat → Int32} {L : Nat → Int64} {Q : Option Value → (Nat → Nat → Int32) → (Nat → Int64) → Prop} {Ln : Nat} {xs : Nat → Int32} {v3 : Int32} {v4 : Int32} {v5 : Int32} {v6 : Int32} {v8 : Int32} {v10 : Int32} {v11 : Int32} {v12 : Int32} {s1 : Int32}  (K : XT (0, 0) Ln xs mL_nets 320 [(0, .ref 0), (1, .ref 49), (2, .ref 1000020), (3, .int v3), (4, .int v4), (5, .int v5), (6, .int v6), (10, .int v10), (11, .int v11), (12, .int v12)] [.int v8, .int s1, .ref 49] I L Q) : XT (0, 0) Ln xs mL_nets 318 [(0, .ref 0), (1, .ref 49), (2, .ref 1000020), (3, .int v3), (4, .int v4), (5, .int v5), (6, .int v6), (8, .int v8), (10, .int v10), (11, .int v11), (12, .int v12)] [.int s1, .ref 49] I L Q := by
  refine x_iload 7 dL_nets_318 rfl ?_
  exact x_sub [0, 1, 2, 3, 4, 5, 6, 8, 9, 10] rfl (K)
theorem bL_nets_320 {I : Nat → Nat → Int32} {L : Nat → Int64} {Q : Option Value → (Nat → Nat → Int32) → (Nat → Int64) → Prop} {Ln : Nat} {xs : Nat → Int32} {v3 : Int32} {v4 : Int32} {v5 : Int32} {v6 : Int32} {v10 : Int32} {v11 : Int32} {v12 : Int32} {s1 : Int32} {s2 : Int32} (hb1 : vp_in s1 64) (K : XT (0, 0) Ln xs mL_nets 321 [(0, .ref 0), (1, .ref 49), (2, .ref 1000020), (3, .int v3), (4, .int v4), (5, .int v5), (6, .int v6), (10, .int v10), (11, .int v11), (12, .int v12)] [] (x_up I 3136 (s1.toNatClampNeg) s2) L Q) : XT (0, 0) Ln xs mL_nets 320 [(0, .ref 0), (1, .ref 49), (2, .ref 1000020), (3, .int v3), (4, .int v4), (5, .int v5), (6, .int v6), (10, .int v10), (11, .int v11), (12, .int v12)] [.int s2, .int s1, .ref 49] I L Q := by
  refine xt_iast 3136 (s1.toNatClampNeg) dL_nets_320 sh_49 rfl rfl hb1 ?_
  exact K
theorem bL_nets_321 {I : Nat → Nat → Int32} {L : Nat → Int64} {Q : Option Value → (Nat → Nat → Int32) → (Nat → Int64) → Prop} {Ln : Nat} {xs : Nat → Int32} {v3 : Int32} {v4 : Int32} {v5 : Int32} {v6 : Int32} {v10 : Int32} {v11 : Int32} {v12 : Int32} (hb1 : vp_in ((4 : Int32) + ((4 : Int32) * v12)) 64) (hb2 : vp_in ((5 : Int32) + ((4 : Int32) * v12)) 64) (K : XT (0, 0) Ln xs mL_nets 341 [(0, .ref 0), (1, .ref 49), (2, .ref 1000020), (3, .int v3), (4, .int v4), (5, .int v5), (6, .int v6)] [] (x_up (x_up I 3136 (((4 : Int32) + ((4 : Int32) * v12)).toNatClampNeg) v10) 3136 (((5 : Int32) + ((4 : Int32) * v12)).toNatClampNeg) v11) L Q) : XT (0, 0) Ln xs mL_nets 321 [(0, .ref 0), (1, .ref 49), (2, .ref 1000020), (3, .int v3), (4, .int v4), (5, .int v5), (6, .int v6), (10, .int v10), (11, .int v11), (12, .int v12)] [] I L Q := by
  refine x_aload_n 1 dL_nets_321 rfl rfl ?_
  refine x_iconst (v := (4 : Int32)) dL_nets_322 (by decide) ?_
  refine x_iconst (v := (4 : Int32)) dL_nets_323 (by decide) ?_
  refine x_iload 9 dL_nets_324 rfl ?_
  refine x_imul dL_nets_326 ?_
  refine x_iadd dL_nets_327 ?_
  refine x_iload 7 dL_nets_328 rfl ?_
  refine xt_iast 3136 (((4 : Int32) + ((4 : Int32) * v12)).toNatClampNeg) dL_nets_330 sh_49 rfl rfl hb1 ?_
  refine x_aload_n 1 dL_nets_331 rfl rfl ?_
  refine x_iconst (v := (5 : Int32)) dL_nets_332 (by decide) ?_
  refine x_iconst (v := (4 : Int32)) dL_nets_333 (by decide) ?_
  refine x_iload 9 dL_nets_334 rfl ?_
  refine x_imul dL_nets_336 ?_
  refine x_iadd dL_nets_337 ?_
  refine x_iload 8 dL_nets_338 rfl ?_
  refine xt_iast 3136 (((5 : Int32) + ((4 : Int32) * v12)).toNatClampNeg) dL_nets_340 sh_49 rfl rfl hb2 ?_
  exact x_sub [0, 1, 2, 3, 4, 5, 6] rfl (K)
theorem bL_nets_341 {I : Nat → Nat → Int32} {L : Nat → Int64} {Q : Option Value → (Nat → Nat → Int32) → (Nat → Int64) → Prop} {Ln : Nat} {xs : Nat → Int32} {v3 : Int32} {v4 : Int32} {v5 : Int32} {v6 : Int32}  (K : XT (0, 0) Ln xs mL_nets 72 [(0, .ref 0), (1, .ref 49), (2, .ref 1000020), (3, .int v3), (4, .int v4), (5, .int v5), (6, .int (v6 + (1 : Int32)))] [] I L Q) : XT (0, 0) Ln xs mL_nets 341 [(0, .ref 0), (1, .ref 49), (2, .ref 1000020), (3, .int v3), (4, .int v4), (5, .int v5), (6, .int v6)] [] I L Q := by
  refine x_iinc 6 (v6 + (1 : Int32)) [(0, .ref 0), (1, .ref 49), (2, .ref 1000020), (3, .int v3), (4, .int v4), (5, .int v5), (6, .int (v6 + (1 : Int32)))] dL_nets_341 rfl rfl (Nat.le_of_ble_eq_true rfl) rfl ?_
  exact x_goto 72 dL_nets_344 (by decide) (K)
theorem bL_nets_347 {I : Nat → Nat → Int32} {L : Nat → Int64} {Q : Option Value → (Nat → Nat → Int32) → (Nat → Int64) → Prop} {Ln : Nat} {xs : Nat → Int32} {v4 : Int32}  (K : XS mX9_fault 0 [(0, .ref 0)] [] I L (fun r I' L' => XT (0, 0) Ln xs mL_nets 351 [(0, .ref 0), (1, .ref 49), (4, .int v4)] (r.toList ++ []) I' L' Q)) : XT (0, 0) Ln xs mL_nets 347 [(0, .ref 0), (1, .ref 49), (4, .int v4)] [] I L Q := by
  refine x_aload_n 0 dL_nets_347 rfl rfl ?_
  exact xt_callV mX9_fault [] [] 0 9 0 _ rfl dL_nets_348 ml_L_33 qX9_fault rfl ⟨Nat.le_of_ble_eq_true rfl, Nat.le_of_ble_eq_true rfl⟩ ⟨Nat.le_of_ble_eq_true rfl, Nat.le_of_ble_eq_true rfl⟩ ⟨rfl, rfl⟩ (Nat.le_of_ble_eq_true rfl) sh_0 (by decide) rfl (Nat.le_of_ble_eq_true rfl) (K)
theorem bL_nets_351 {I : Nat → Nat → Int32} {L : Nat → Int64} {Q : Option Value → (Nat → Nat → Int32) → (Nat → Int64) → Prop} {Ln : Nat} {xs : Nat → Int32} {v4 : Int32} {s0 : Int32}  (K1 : (¬ s0 = (-1 : Int32)) → XT (0, 0) Ln xs mL_nets 415 [] [] I L Q) (K2 : (s0 = (-1 : Int32)) → XT (0, 0) Ln xs mL_nets 355 [(0, .ref 0), (1, .ref 49), (4, .int v4)] [] I L Q) : XT (0, 0) Ln xs mL_nets 351 [(0, .ref 0), (1, .ref 49), (4, .int v4)] [.int s0] I L Q := by
  refine x_iconst (v := (-1 : Int32)) dL_nets_351 (by decide) ?_
  exact x_icmp_ne 415 dL_nets_352 (by decide) (fun h => x_sub [] rfl (K1 h)) (fun h => K2 h)
theorem bL_nets_355 {I : Nat → Nat → Int32} {L : Nat → Int64} {Q : Option Value → (Nat → Nat → Int32) → (Nat → Int64) → Prop} {Ln : Nat} {xs : Nat → Int32} {v4 : Int32}  (K : XS mX9_tell 0 [(0, .ref 0)] [] I L (fun r I' L' => XT (0, 0) Ln xs mL_nets 359 [(0, .ref 0), (1, .ref 49), (4, .int v4)] (r.toList ++ []) I' L' Q)) : XT (0, 0) Ln xs mL_nets 355 [(0, .ref 0), (1, .ref 49), (4, .int v4)] [] I L Q := by
  refine x_aload_n 0 dL_nets_355 rfl rfl ?_
  exact xt_callV mX9_tell [] [] 0 9 0 _ rfl dL_nets_356 ml_L_36 qX9_tell rfl ⟨Nat.le_of_ble_eq_true rfl, Nat.le_of_ble_eq_true rfl⟩ ⟨Nat.le_of_ble_eq_true rfl, Nat.le_of_ble_eq_true rfl⟩ ⟨rfl, rfl⟩ (Nat.le_of_ble_eq_true rfl) sh_0 (by decide) rfl (Nat.le_of_ble_eq_true rfl) (K)
theorem bL_nets_359 {I : Nat → Nat → Int32} {L : Nat → Int64} {Q : Option Value → (Nat → Nat → Int32) → (Nat → Int64) → Prop} {Ln : Nat} {xs : Nat → Int32} {v4 : Int32} {s0 : Int32}  (K1 : (s0 ≤ 0) → XT (0, 0) Ln xs mL_nets 415 [] [] I L Q) (K2 : (¬ s0 ≤ 0) → XT (0, 0) Ln xs mL_nets 362 [(0, .ref 0), (1, .ref 49), (4, .int v4)] [] I L Q) : XT (0, 0) Ln xs mL_nets 359 [(0, .ref 0), (1, .ref 49), (4, .int v4)] [.int s0] I L Q := by
  exact x_if_le 415 dL_nets_359 (by decide) (fun h => x_sub [] rfl (K1 h)) (fun h => K2 h)
theorem bL_nets_362 {I : Nat → Nat → Int32} {L : Nat → Int64} {Q : Option Value → (Nat → Nat → Int32) → (Nat → Int64) → Prop} {Ln : Nat} {xs : Nat → Int32} {v4 : Int32}  (K : XS mX9_count 0 [(0, .ref 0), (1, .int (0 : Int32))] [] I L (fun r I' L' => XT (0, 0) Ln xs mL_nets 367 [(0, .ref 0), (1, .ref 49), (4, .int v4)] (r.toList ++ []) I' L' Q)) : XT (0, 0) Ln xs mL_nets 362 [(0, .ref 0), (1, .ref 49), (4, .int v4)] [] I L Q := by
  refine x_aload_n 0 dL_nets_362 rfl rfl ?_
  refine x_iconst (v := (0 : Int32)) dL_nets_363 (by decide) ?_
  exact xt_callV mX9_count [.int (0 : Int32)] [] 0 9 1 _ rfl dL_nets_364 ml_L_39 qX9_count rfl ⟨Nat.le_of_ble_eq_true rfl, Nat.le_of_ble_eq_true rfl⟩ ⟨Nat.le_of_ble_eq_true rfl, Nat.le_of_ble_eq_true rfl⟩ ⟨rfl, rfl⟩ (Nat.le_of_ble_eq_true rfl) sh_0 (by decide) rfl (Nat.le_of_ble_eq_true rfl) (K)
theorem bL_nets_367 {I : Nat → Nat → Int32} {L : Nat → Int64} {Q : Option Value → (Nat → Nat → Int32) → (Nat → Int64) → Prop} {Ln : Nat} {xs : Nat → Int32} {v4 : Int32} {s0 : Int32}  (K1 : (¬ s0 = v4) → XT (0, 0) Ln xs mL_nets 415 [] [] I L Q) (K2 : (s0 = v4) → XT (0, 0) Ln xs mL_nets 372 [(0, .ref 0), (1, .ref 49)] [] I L Q) : XT (0, 0) Ln xs mL_nets 367 [(0, .ref 0), (1, .ref 49), (4, .int v4)] [.int s0] I L Q := by
  refine x_iload 2 dL_nets_367 rfl ?_
  exact x_icmp_ne 415 dL_nets_369 (by decide) (fun h => x_sub [] rfl (K1 h)) (fun h => x_sub [0, 1] rfl (K2 h))
theorem bL_nets_372 {I : Nat → Nat → Int32} {L : Nat → Int64} {Q : Option Value → (Nat → Nat → Int32) → (Nat → Int64) → Prop} {Ln : Nat} {xs : Nat → Int32}   (K : XS mX9_count 0 [(0, .ref 0), (1, .int (1 : Int32))] [] I L (fun r I' L' => XT (0, 0) Ln xs mL_nets 377 [(0, .ref 0), (1, .ref 49)] (r.toList ++ []) I' L' Q)) : XT (0, 0) Ln xs mL_nets 372 [(0, .ref 0), (1, .ref 49)] [] I L Q := by
  refine x_aload_n 0 dL_nets_372 rfl rfl ?_
  refine x_iconst (v := (1 : Int32)) dL_nets_373 (by decide) ?_
  exact xt_callV mX9_count [.int (1 : Int32)] [] 0 9 1 _ rfl dL_nets_374 ml_L_39 qX9_count rfl ⟨Nat.le_of_ble_eq_true rfl, Nat.le_of_ble_eq_true rfl⟩ ⟨Nat.le_of_ble_eq_true rfl, Nat.le_of_ble_eq_true rfl⟩ ⟨rfl, rfl⟩ (Nat.le_of_ble_eq_true rfl) sh_0 (by decide) rfl (Nat.le_of_ble_eq_true rfl) (K)
theorem bL_nets_377 {I : Nat → Nat → Int32} {L : Nat → Int64} {Q : Option Value → (Nat → Nat → Int32) → (Nat → Int64) → Prop} {Ln : Nat} {xs : Nat → Int32} {s0 : Int32}  (K1 : (¬ s0 = (I 3136 1)) → XT (0, 0) Ln xs mL_nets 415 [] [] I L Q) (K2 : (s0 = (I 3136 1)) → XT (0, 0) Ln xs mL_nets 383 [(0, .ref 0), (1, .ref 49)] [] I L Q) : XT (0, 0) Ln xs mL_nets 377 [(0, .ref 0), (1, .ref 49)] [.int s0] I L Q := by
  refine x_aload_n 1 dL_nets_377 rfl rfl ?_
  refine x_iconst (v := (1 : Int32)) dL_nets_378 (by decide) ?_
  refine xt_iald 3136 (1) dL_nets_379 sh_49 rfl (by decide) (x_vpin (by decide)) ?_
  exact x_icmp_ne 415 dL_nets_380 (by decide) (fun h => x_sub [] rfl (K1 h)) (fun h => K2 h)
theorem bL_nets_383 {I : Nat → Nat → Int32} {L : Nat → Int64} {Q : Option Value → (Nat → Nat → Int32) → (Nat → Int64) → Prop} {Ln : Nat} {xs : Nat → Int32}   (K : XS mX9_count 0 [(0, .ref 0), (1, .int (2 : Int32))] [] I L (fun r I' L' => XT (0, 0) Ln xs mL_nets 388 [(0, .ref 0), (1, .ref 49)] (r.toList ++ []) I' L' Q)) : XT (0, 0) Ln xs mL_nets 383 [(0, .ref 0), (1, .ref 49)] [] I L Q := by
  refine x_aload_n 0 dL_nets_383 rfl rfl ?_
  refine x_iconst (v := (2 : Int32)) dL_nets_384 (by decide) ?_
  exact xt_callV mX9_count [.int (2 : Int32)] [] 0 9 1 _ rfl dL_nets_385 ml_L_39 qX9_count rfl ⟨Nat.le_of_ble_eq_true rfl, Nat.le_of_ble_eq_true rfl⟩ ⟨Nat.le_of_ble_eq_true rfl, Nat.le_of_ble_eq_true rfl⟩ ⟨rfl, rfl⟩ (Nat.le_of_ble_eq_true rfl) sh_0 (by decide) rfl (Nat.le_of_ble_eq_true rfl) (K)
theorem bL_nets_388 {I : Nat → Nat → Int32} {L : Nat → Int64} {Q : Option Value → (Nat → Nat → Int32) → (Nat → Int64) → Prop} {Ln : Nat} {xs : Nat → Int32} {s0 : Int32}  (K1 : (¬ s0 = (I 3136 1)) → XT (0, 0) Ln xs mL_nets 415 [] [] I L Q) (K2 : (s0 = (I 3136 1)) → XT (0, 0) Ln xs mL_nets 394 [(0, .ref 0)] [] I L Q) : XT (0, 0) Ln xs mL_nets 388 [(0, .ref 0), (1, .ref 49)] [.int s0] I L Q := by
  refine x_aload_n 1 dL_nets_388 rfl rfl ?_
  refine x_iconst (v := (1 : Int32)) dL_nets_389 (by decide) ?_
  refine xt_iald 3136 (1) dL_nets_390 sh_49 rfl (by decide) (x_vpin (by decide)) ?_
  exact x_icmp_ne 415 dL_nets_391 (by decide) (fun h => x_sub [] rfl (K1 h)) (fun h => x_sub [0] rfl (K2 h))
theorem bL_nets_394 {I : Nat → Nat → Int32} {L : Nat → Int64} {Q : Option Value → (Nat → Nat → Int32) → (Nat → Int64) → Prop} {Ln : Nat} {xs : Nat → Int32}   (K : XS mX9_count 0 [(0, .ref 0), (1, .int (3 : Int32))] [] I L (fun r I' L' => XT (0, 0) Ln xs mL_nets 399 [(0, .ref 0)] (r.toList ++ []) I' L' Q)) : XT (0, 0) Ln xs mL_nets 394 [(0, .ref 0)] [] I L Q := by
  refine x_aload_n 0 dL_nets_394 rfl rfl ?_
  refine x_iconst (v := (3 : Int32)) dL_nets_395 (by decide) ?_
  exact xt_callV mX9_count [.int (3 : Int32)] [] 0 9 1 _ rfl dL_nets_396 ml_L_39 qX9_count rfl ⟨Nat.le_of_ble_eq_true rfl, Nat.le_of_ble_eq_true rfl⟩ ⟨Nat.le_of_ble_eq_true rfl, Nat.le_of_ble_eq_true rfl⟩ ⟨rfl, rfl⟩ (Nat.le_of_ble_eq_true rfl) sh_0 (by decide) rfl (Nat.le_of_ble_eq_true rfl) (K)
theorem bL_nets_399 {I : Nat → Nat → Int32} {L : Nat → Int64} {Q : Option Value → (Nat → Nat → Int32) → (Nat → Int64) → Prop} {Ln : Nat} {xs : Nat → Int32} {s0 : Int32}  (K1 : (¬ s0 = 0) → XT (0, 0) Ln xs mL_nets 415 [] [] I L Q) (K2 : (s0 = 0) → XT (0, 0) Ln xs mL_nets 402 [(0, .ref 0)] [] I L Q) : XT (0, 0) Ln xs mL_nets 399 [(0, .ref 0)] [.int s0] I L Q := by
  exact x_if_ne 415 dL_nets_399 (by decide) (fun h => x_sub [] rfl (K1 h)) (fun h => K2 h)
theorem bL_nets_402 {I : Nat → Nat → Int32} {L : Nat → Int64} {Q : Option Value → (Nat → Nat → Int32) → (Nat → Int64) → Prop} {Ln : Nat} {xs : Nat → Int32}   (K : XS mX9_count 0 [(0, .ref 0), (1, .int (12 : Int32))] [] I L (fun r I' L' => XT (0, 0) Ln xs mL_nets 408 [] (r.toList ++ []) I' L' Q)) : XT (0, 0) Ln xs mL_nets 402 [(0, .ref 0)] [] I L Q := by
  refine x_aload_n 0 dL_nets_402 rfl rfl ?_
  refine x_bipush (v := (12 : Int32)) dL_nets_403 (by decide) ?_
  refine x_sub [] rfl ?_
  exact xt_callV mX9_count [.int (12 : Int32)] [] 0 9 1 _ rfl dL_nets_405 ml_L_39 qX9_count rfl ⟨Nat.le_of_ble_eq_true rfl, Nat.le_of_ble_eq_true rfl⟩ ⟨Nat.le_of_ble_eq_true rfl, Nat.le_of_ble_eq_true rfl⟩ ⟨rfl, rfl⟩ (Nat.le_of_ble_eq_true rfl) sh_0 (by decide) rfl (Nat.le_of_ble_eq_true rfl) (K)
theorem bL_nets_408 {I : Nat → Nat → Int32} {L : Nat → Int64} {Q : Option Value → (Nat → Nat → Int32) → (Nat → Int64) → Prop} {Ln : Nat} {xs : Nat → Int32} {s0 : Int32}  (K1 : (¬ s0 = 0) → XT (0, 0) Ln xs mL_nets 415 [] [] I L Q) (K2 : (s0 = 0) → XT (0, 0) Ln xs mL_nets 411 [] [] I L Q) : XT (0, 0) Ln xs mL_nets 408 [] [.int s0] I L Q := by
  exact x_if_ne 415 dL_nets_408 (by decide) (fun h => K1 h) (fun h => K2 h)
theorem bL_nets_411 {I : Nat → Nat → Int32} {L : Nat → Int64} {Q : Option Value → (Nat → Nat → Int32) → (Nat → Int64) → Prop} {Ln : Nat} {xs : Nat → Int32}   (K : XT (0, 0) Ln xs mL_nets 416 [] [.int (1 : Int32)] I L Q) : XT (0, 0) Ln xs mL_nets 411 [] [] I L Q := by
  refine x_iconst (v := (1 : Int32)) dL_nets_411 (by decide) ?_
  exact x_goto 416 dL_nets_412 (by decide) (K)
theorem bL_nets_415 {I : Nat → Nat → Int32} {L : Nat → Int64} {Q : Option Value → (Nat → Nat → Int32) → (Nat → Int64) → Prop} {Ln : Nat} {xs : Nat → Int32}   (K : XT (0, 0) Ln xs mL_nets 416 [] [.int (0 : Int32)] I L Q) : XT (0, 0) Ln xs mL_nets 415 [] [] I L Q := by
  refine x_iconst (v := (0 : Int32)) dL_nets_415 (by decide) ?_
  exact K
theorem bL_nets_416 {I : Nat → Nat → Int32} {L : Nat → Int64} {Q : Option Value → (Nat → Nat → Int32) → (Nat → Int64) → Prop} {Ln : Nat} {xs : Nat → Int32} {s0 : Int32} (hz1 : s0 = 0 ∨ s0 = 1) (K : Q (some (.int s0)) I L) : XT (0, 0) Ln xs mL_nets 416 [] [.int s0] I L Q := by
  exact xt_iret dL_nets_416 rfl (x_nar _ hz1) K
theorem bL_says_0 {I : Nat → Nat → Int32} {L : Nat → Int64} {Q : Option Value → (Nat → Nat → Int32) → (Nat → Int64) → Prop} {v1 : Int32} {v2 : Int32} {v3 : Int32} {v4 : Int32}  (K : XS mX9_write 0 [(0, .ref 0), (1, .int v1)] [] I L (fun r I' L' => XS mL_says 5 [(0, .ref 0), (2, .int v2), (3, .int v3), (4, .int v4)] (r.toList ++ []) I' L' Q)) : XS mL_says 0 [(0, .ref 0), (1, .int v1), (2, .int v2), (3, .int v3), (4, .int v4)] [] I L Q := by
  refine x_aload_n 0 dL_says_0 rfl rfl ?_
  refine x_iload_n 1 dL_says_1 rfl rfl ?_
  refine x_sub [0, 2, 3, 4] rfl ?_
  exact xs_callV mX9_write [.int v1] [] 0 9 1 _ rfl dL_says_2 ml_L_43 qX9_write rfl ⟨Nat.le_of_ble_eq_true rfl, Nat.le_of_ble_eq_true rfl⟩ ⟨rfl, rfl⟩ (Nat.le_of_ble_eq_true rfl) sh_0 (by decide) rfl (Nat.le_of_ble_eq_true rfl) (K)
theorem bL_says_5 {I : Nat → Nat → Int32} {L : Nat → Int64} {Q : Option Value → (Nat → Nat → Int32) → (Nat → Int64) → Prop} {v2 : Int32} {v3 : Int32} {v4 : Int32} {s0 : Int32}  (K : XS mX9_write 0 [(0, .ref 0), (1, .int v2)] [] I L (fun r I' L' => XS mL_says 11 [(0, .ref 0), (3, .int v3), (4, .int v4)] (r.toList ++ []) I' L' Q)) : XS mL_says 5 [(0, .ref 0), (2, .int v2), (3, .int v3), (4, .int v4)] [.int s0] I L Q := by
  refine x_pop dL_says_5 rfl ?_
  refine x_aload_n 0 dL_says_6 rfl rfl ?_
  refine x_iload_n 1 dL_says_7 rfl rfl ?_
  refine x_sub [0, 2, 3] rfl ?_
  exact xs_callV mX9_write [.int v2] [] 0 9 1 _ rfl dL_says_8 ml_L_43 qX9_write rfl ⟨Nat.le_of_ble_eq_true rfl, Nat.le_of_ble_eq_true rfl⟩ ⟨rfl, rfl⟩ (Nat.le_of_ble_eq_true rfl) sh_0 (by decide) rfl (Nat.le_of_ble_eq_true rfl) (K)
theorem bL_says_11 {I : Nat → Nat → Int32} {L : Nat → Int64} {Q : Option Value → (Nat → Nat → Int32) → (Nat → Int64) → Prop} {v3 : Int32} {v4 : Int32} {s0 : Int32}  (K : XS mX9_write 0 [(0, .ref 0), (1, .int v3)] [] I L (fun r I' L' => XS mL_says 17 [(0, .ref 0), (4, .int v4)] (r.toList ++ []) I' L' Q)) : XS mL_says 11 [(0, .ref 0), (3, .int v3), (4, .int v4)] [.int s0] I L Q := by
  refine x_pop dL_says_11 rfl ?_
  refine x_aload_n 0 dL_says_12 rfl rfl ?_
  refine x_iload_n 1 dL_says_13 rfl rfl ?_
  refine x_sub [0, 2] rfl ?_
  exact xs_callV mX9_write [.int v3] [] 0 9 1 _ rfl dL_says_14 ml_L_43 qX9_write rfl ⟨Nat.le_of_ble_eq_true rfl, Nat.le_of_ble_eq_true rfl⟩ ⟨rfl, rfl⟩ (Nat.le_of_ble_eq_true rfl) sh_0 (by decide) rfl (Nat.le_of_ble_eq_true rfl) (K)
theorem bL_says_17 {I : Nat → Nat → Int32} {L : Nat → Int64} {Q : Option Value → (Nat → Nat → Int32) → (Nat → Int64) → Prop} {v4 : Int32} {s0 : Int32}  (K : XS mX9_write 0 [(0, .ref 0), (1, .int v4)] [] I L (fun r I' L' => XS mL_says 24 [] (r.toList ++ []) I' L' Q)) : XS mL_says 17 [(0, .ref 0), (4, .int v4)] [.int s0] I L Q := by
  refine x_pop dL_says_17 rfl ?_
  refine x_aload_n 0 dL_says_18 rfl rfl ?_
  refine x_iload 1 dL_says_19 rfl ?_
  refine x_sub [] rfl ?_
  exact xs_callV mX9_write [.int v4] [] 0 9 1 _ rfl dL_says_21 ml_L_43 qX9_write rfl ⟨Nat.le_of_ble_eq_true rfl, Nat.le_of_ble_eq_true rfl⟩ ⟨rfl, rfl⟩ (Nat.le_of_ble_eq_true rfl) sh_0 (by decide) rfl (Nat.le_of_ble_eq_true rfl) (K)
theorem bL_says_24 {I : Nat → Nat → Int32} {L : Nat → Int64} {Q : Option Value → (Nat → Nat → Int32) → (Nat → Int64) → Prop} {s0 : Int32}  (K : Q none I L) : XS mL_says 24 [] [.int s0] I L Q := by
  refine x_pop dL_says_24 rfl ?_
  exact xs_end dL_says_25 rfl K
theorem bL_linkOf_0 {I : Nat → Nat → Int32} {L : Nat → Int64} {Q : Option Value → (Nat → Nat → Int32) → (Nat → Int64) → Prop} {v1 : Int32} {v2 : Int32}  (K : XS mL_linkOf 2 [(0, .ref 49), (1, .int v1), (2, .int v2), (3, .int (0 : Int32))] [] I L Q) : XS mL_linkOf 0 [(0, .ref 49), (1, .int v1), (2, .int v2)] [] I L Q := by
  refine x_iconst (v := (0 : Int32)) dL_linkOf_0 (by decide) ?_
  refine x_istore_n [(0, .ref 49), (1, .int v1), (2, .int v2), (3, .int (0 : Int32))] dL_linkOf_1 rfl (Nat.le_of_ble_eq_true rfl) rfl ?_
  exact K
theorem bL_linkOf_2 {I : Nat → Nat → Int32} {L : Nat → Int64} {Q : Option Value → (Nat → Nat → Int32) → (Nat → Int64) → Prop} {v1 : Int32} {v2 : Int32} {v3 : Int32}  (K1 : ((I 3136 1) ≤ v3) → XS mL_linkOf 61 [] [] I L Q) (K2 : (¬ (I 3136 1) ≤ v3) → XS mL_linkOf 9 [(0, .ref 49), (1, .int v1), (2, .int v2), (3, .int v3)] [] I L Q) : XS mL_linkOf 2 [(0, .ref 49), (1, .int v1), (2, .int v2), (3, .int v3)] [] I L Q := by
  refine x_iload_n 3 dL_linkOf_2 rfl rfl ?_
  refine x_aload_n 0 dL_linkOf_3 rfl rfl ?_
  refine x_iconst (v := (1 : Int32)) dL_linkOf_4 (by decide) ?_
  refine xs_iald 3136 (1) dL_linkOf_5 sh_49 rfl (by decide) (x_vpin (by decide)) ?_
  exact x_icmp_ge 61 dL_linkOf_6 (by decide) (fun h => x_sub [] rfl (K1 h)) (fun h => K2 h)
theorem bL_linkOf_9 {I : Nat → Nat → Int32} {L : Nat → Int64} {Q : Option Value → (Nat → Nat → Int32) → (Nat → Int64) → Prop} {v1 : Int32} {v2 : Int32} {v3 : Int32} (hb1 : vp_in ((2 : Int32) + ((4 : Int32) * v3)) 64) (K1 : (¬ (I 3136 (((2 : Int32) + ((4 : Int32) * v3)).toNatClampNeg)) = v1) → XS mL_linkOf 31 [(0, .ref 49), (1, .int v1), (2, .int v2), (3, .int v3)] [] I L Q) (K2 : ((I 3136 (((2 : Int32) + ((4 : Int32) * v3)).toNatClampNeg)) = v1) → XS mL_linkOf 20 [(0, .ref 49), (1, .int v1), (2, .int v2), (3, .int v3)] [] I L Q) : XS mL_linkOf 9 [(0, .ref 49), (1, .int v1), (2, .int v2), (3, .int v3)] [] I L Q := by
  refine x_aload_n 0 dL_linkOf_9 rfl rfl ?_
  refine x_iconst (v := (2 : Int32)) dL_linkOf_10 (by decide) ?_
  refine x_iconst (v := (4 : Int32)) dL_linkOf_11 (by decide) ?_
  refine x_iload_n 3 dL_linkOf_12 rfl rfl ?_
  refine x_imul dL_linkOf_13 ?_
  refine x_iadd dL_linkOf_14 ?_
  refine xs_iald 3136 (((2 : Int32) + ((4 : Int32) * v3)).toNatClampNeg) dL_linkOf_15 sh_49 rfl rfl hb1 ?_
  refine x_iload_n 1 dL_linkOf_16 rfl rfl ?_
  exact x_icmp_ne 31 dL_linkOf_17 (by decide) (fun h => K1 h) (fun h => K2 h)
theorem bL_linkOf_20 {I : Nat → Nat → Int32} {L : Nat → Int64} {Q : Option Value → (Nat → Nat → Int32) → (Nat → Int64) → Prop} {v1 : Int32} {v2 : Int32} {v3 : Int32} (hb1 : vp_in ((3 : Int32) + ((4 : Int32) * v3)) 64) (K1 : ((I 3136 (((3 : Int32) + ((4 : Int32) * v3)).toNatClampNeg)) = v2) → XS mL_linkOf 53 [(3, .int v3)] [] I L Q) (K2 : (¬ (I 3136 (((3 : Int32) + ((4 : Int32) * v3)).toNatClampNeg)) = v2) → XS mL_linkOf 31 [(0, .ref 49), (1, .int v1), (2, .int v2), (3, .int v3)] [] I L Q) : XS mL_linkOf 20 [(0, .ref 49), (1, .int v1), (2, .int v2), (3, .int v3)] [] I L Q := by
  refine x_aload_n 0 dL_linkOf_20 rfl rfl ?_
  refine x_iconst (v := (3 : Int32)) dL_linkOf_21 (by decide) ?_
  refine x_iconst (v := (4 : Int32)) dL_linkOf_22 (by decide) ?_
  refine x_iload_n 3 dL_linkOf_23 rfl rfl ?_
  refine x_imul dL_linkOf_24 ?_
  refine x_iadd dL_linkOf_25 ?_
  refine xs_iald 3136 (((3 : Int32) + ((4 : Int32) * v3)).toNatClampNeg) dL_linkOf_26 sh_49 rfl rfl hb1 ?_
  refine x_iload_n 2 dL_linkOf_27 rfl rfl ?_
  exact x_icmp_eq 53 dL_linkOf_28 (by decide) (fun h => x_sub [3] rfl (K1 h)) (fun h => K2 h)
theorem bL_linkOf_31 {I : Nat → Nat → Int32} {L : Nat → Int64} {Q : Option Value → (Nat → Nat → Int32) → (Nat → Int64) → Prop} {v1 : Int32} {v2 : Int32} {v3 : Int32} (hb1 : vp_in ((2 : Int32) + ((4 : Int32) * v3)) 64) (K1 : (¬ (I 3136 (((2 : Int32) + ((4 : Int32) * v3)).toNatClampNeg)) = v2) → XS mL_linkOf 55 [(0, .ref 49), (1, .int v1), (2, .int v2), (3, .int v3)] [] I L Q) (K2 : ((I 3136 (((2 : Int32) + ((4 : Int32) * v3)).toNatClampNeg)) = v2) → XS mL_linkOf 42 [(0, .ref 49), (1, .int v1), (2, .int v2), (3, .int v3)] [] I L Q) : XS mL_linkOf 31 [(0, .ref 49), (1, .int v1), (2, .int v2), (3, .int v3)] [] I L Q := by
  refine x_aload_n 0 dL_linkOf_31 rfl rfl ?_
  refine x_iconst (v := (2 : Int32)) dL_linkOf_32 (by decide) ?_
  refine x_iconst (v := (4 : Int32)) dL_linkOf_33 (by decide) ?_
  refine x_iload_n 3 dL_linkOf_34 rfl rfl ?_
  refine x_imul dL_linkOf_35 ?_
  refine x_iadd dL_linkOf_36 ?_
  refine xs_iald 3136 (((2 : Int32) + ((4 : Int32) * v3)).toNatClampNeg) dL_linkOf_37 sh_49 rfl rfl hb1 ?_
  refine x_iload_n 2 dL_linkOf_38 rfl rfl ?_
  exact x_icmp_ne 55 dL_linkOf_39 (by decide) (fun h => K1 h) (fun h => K2 h)
theorem bL_linkOf_42 {I : Nat → Nat → Int32} {L : Nat → Int64} {Q : Option Value → (Nat → Nat → Int32) → (Nat → Int64) → Prop} {v1 : Int32} {v2 : Int32} {v3 : Int32} (hb1 : vp_in ((3 : Int32) + ((4 : Int32) * v3)) 64) (K1 : (¬ (I 3136 (((3 : Int32) + ((4 : Int32) * v3)).toNatClampNeg)) = v1) → XS mL_linkOf 55 [(0, .ref 49), (1, .int v1), (2, .int v2), (3, .int v3)] [] I L Q) (K2 : ((I 3136 (((3 : Int32) + ((4 : Int32) * v3)).toNatClampNeg)) = v1) → XS mL_linkOf 53 [(3, .int v3)] [] I L Q) : XS mL_linkOf 42 [(0, .ref 49), (1, .int v1), (2, .int v2), (3, .int v3)] [] I L Q := by
  refine x_aload_n 0 dL_linkOf_42 rfl rfl ?_
  refine x_iconst (v := (3 : Int32)) dL_linkOf_43 (by decide) ?_
  refine x_iconst (v := (4 : Int32)) dL_linkOf_44 (by decide) ?_
  refine x_iload_n 3 dL_linkOf_45 rfl rfl ?_
  refine x_imul dL_linkOf_46 ?_
  refine x_iadd dL_linkOf_47 ?_
  refine xs_iald 3136 (((3 : Int32) + ((4 : Int32) * v3)).toNatClampNeg) dL_linkOf_48 sh_49 rfl rfl hb1 ?_
  refine x_iload_n 1 dL_linkOf_49 rfl rfl ?_
  exact x_icmp_ne 55 dL_linkOf_50 (by decide) (fun h => K1 h) (fun h => x_sub [3] rfl (K2 h))
theorem bL_linkOf_53 {I : Nat → Nat → Int32} {L : Nat → Int64} {Q : Option Value → (Nat → Nat → Int32) → (Nat → Int64) → Prop} {v3 : Int32}  (K : Q (some (.int v3)) I L) : XS mL_linkOf 53 [(3, .int v3)] [] I L Q := by
  refine x_iload_n 0 dL_linkOf_53 rfl rfl ?_
  exact xs_iret dL_linkOf_54 rfl rfl K
theorem bL_linkOf_55 {I : Nat → Nat → Int32} {L : Nat → Int64} {Q : Option Value → (Nat → Nat → Int32) → (Nat → Int64) → Prop} {v1 : Int32} {v2 : Int32} {v3 : Int32}  (K : XS mL_linkOf 2 [(0, .ref 49), (1, .int v1), (2, .int v2), (3, .int (v3 + (1 : Int32)))] [] I L Q) : XS mL_linkOf 55 [(0, .ref 49), (1, .int v1), (2, .int v2), (3, .int v3)] [] I L Q := by
  refine x_iinc 3 (v3 + (1 : Int32)) [(0, .ref 49), (1, .int v1), (2, .int v2), (3, .int (v3 + (1 : Int32)))] dL_linkOf_55 rfl rfl (Nat.le_of_ble_eq_true rfl) rfl ?_
  exact x_goto 2 dL_linkOf_58 (by decide) (K)
theorem bL_linkOf_61 {I : Nat → Nat → Int32} {L : Nat → Int64} {Q : Option Value → (Nat → Nat → Int32) → (Nat → Int64) → Prop}   (K : Q (some (.int (-1 : Int32))) I L) : XS mL_linkOf 61 [] [] I L Q := by
  refine x_iconst (v := (-1 : Int32)) dL_linkOf_61 (by decide) ?_
  exact xs_iret dL_linkOf_62 rfl rfl K
theorem bL_whole_0 {I : Nat → Nat → Int32} {L : Nat → Int64} {Q : Option Value → (Nat → Nat → Int32) → (Nat → Int64) → Prop}   (K : XS mL_whole 6 [(0, .ref 0), (1, .long (31 : Int64)), (3, .int (0 : Int32))] [] I L Q) : XS mL_whole 0 [(0, .ref 0)] [] I L Q := by
  refine x_ldc2 dL_whole_0 ct_L_50 ?_
  refine x_lstore_n [(0, .ref 0), (1, .long (31 : Int64))] dL_whole_3 rfl (Nat.le_of_ble_eq_true rfl) rfl ?_
  refine x_iconst (v := (0 : Int32)) dL_whole_4 (by decide) ?_
  refine x_istore_n [(0, .ref 0), (1, .long (31 : Int64)), (3, .int (0 : Int32))] dL_whole_5 rfl (Nat.le_of_ble_eq_true rfl) rfl ?_
  exact K
theorem bL_whole_6 {I : Nat → Nat → Int32} {L : Nat → Int64} {Q : Option Value → (Nat → Nat → Int32) → (Nat → Int64) → Prop} {v1 : Int64} {v3 : Int32}  (K1 : ((11 : Int32) ≤ v3) → XS mL_whole 31 [(0, .ref 0), (1, .long v1)] [] I L Q) (K2 : (¬ (11 : Int32) ≤ v3) → XS mL_whole 12 [(0, .ref 0), (1, .long v1), (3, .int v3)] [] I L Q) : XS mL_whole 6 [(0, .ref 0), (1, .long v1), (3, .int v3)] [] I L Q := by
  refine x_iload_n 2 dL_whole_6 rfl rfl ?_
  refine x_bipush (v := (11 : Int32)) dL_whole_7 (by decide) ?_
  exact x_icmp_ge 31 dL_whole_9 (by decide) (fun h => x_sub [0, 1] rfl (K1 h)) (fun h => K2 h)
theorem bL_whole_12 {I : Nat → Nat → Int32} {L : Nat → Int64} {Q : Option Value → (Nat → Nat → Int32) → (Nat → Int64) → Prop} {v1 : Int64} {v3 : Int32}  (K : XS mX9_count 0 [(0, .ref 0), (1, .int v3)] [] I L (fun r I' L' => XS mL_whole 22 [(0, .ref 0), (3, .int v3)] (r.toList ++ [.long ((31 : Int64) * v1)]) I' L' Q)) : XS mL_whole 12 [(0, .ref 0), (1, .long v1), (3, .int v3)] [] I L Q := by
  refine x_ldc2 dL_whole_12 ct_L_50 ?_
  refine x_lload_n 1 dL_whole_15 rfl rfl ?_
  refine x_lmul dL_whole_16 ?_
  refine x_aload_n 0 dL_whole_17 rfl rfl ?_
  refine x_iload_n 2 dL_whole_18 rfl rfl ?_
  refine x_sub [0, 2] rfl ?_
  exact xs_callV mX9_count [.int v3] [.long ((31 : Int64) * v1)] 0 9 1 _ rfl dL_whole_19 ml_L_39 qX9_count rfl ⟨Nat.le_of_ble_eq_true rfl, Nat.le_of_ble_eq_true rfl⟩ ⟨rfl, rfl⟩ (Nat.le_of_ble_eq_true rfl) sh_0 (by decide) rfl (Nat.le_of_ble_eq_true rfl) (K)
theorem bL_whole_22 {I : Nat → Nat → Int32} {L : Nat → Int64} {Q : Option Value → (Nat → Nat → Int32) → (Nat → Int64) → Prop} {v3 : Int32} {s0 : Int64} {s1 : Int32}  (K : XS mL_whole 6 [(0, .ref 0), (1, .long (s0 + s1.toInt64)), (3, .int (v3 + (1 : Int32)))] [] I L Q) : XS mL_whole 22 [(0, .ref 0), (3, .int v3)] [.int s1, .long s0] I L Q := by
  refine x_i2l dL_whole_22 ?_
  refine x_ladd dL_whole_23 ?_
  refine x_lstore_n [(0, .ref 0), (1, .long (s0 + s1.toInt64)), (3, .int v3)] dL_whole_24 rfl (Nat.le_of_ble_eq_true rfl) rfl ?_
  refine x_iinc 2 (v3 + (1 : Int32)) [(0, .ref 0), (1, .long (s0 + s1.toInt64)), (3, .int (v3 + (1 : Int32)))] dL_whole_25 rfl rfl (Nat.le_of_ble_eq_true rfl) rfl ?_
  exact x_goto 6 dL_whole_28 (by decide) (K)
theorem bL_whole_31 {I : Nat → Nat → Int32} {L : Nat → Int64} {Q : Option Value → (Nat → Nat → Int32) → (Nat → Int64) → Prop} {v1 : Int64}  (K : XS mL_whole 33 [(0, .ref 0), (1, .long v1), (3, .int (0 : Int32))] [] I L Q) : XS mL_whole 31 [(0, .ref 0), (1, .long v1)] [] I L Q := by
  refine x_iconst (v := (0 : Int32)) dL_whole_31 (by decide) ?_
  refine x_istore_n [(0, .ref 0), (1, .long v1), (3, .int (0 : Int32))] dL_whole_32 rfl (Nat.le_of_ble_eq_true rfl) rfl ?_
  exact K
theorem bL_whole_33 {I : Nat → Nat → Int32} {L : Nat → Int64} {Q : Option Value → (Nat → Nat → Int32) → (Nat → Int64) → Prop} {v1 : Int64} {v3 : Int32}  (K : XS mX9_count 0 [(0, .ref 0), (1, .int (1 : Int32))] [] I L (fun r I' L' => XS mL_whole 39 [(0, .ref 0), (1, .long v1), (3, .int v3)] (r.toList ++ [.int v3]) I' L' Q)) : XS mL_whole 33 [(0, .ref 0), (1, .long v1), (3, .int v3)] [] I L Q := by
  refine x_iload_n 2 dL_whole_33 rfl rfl ?_
  refine x_aload_n 0 dL_whole_34 rfl rfl ?_
  refine x_iconst (v := (1 : Int32)) dL_whole_35 (by decide) ?_
  exact xs_callV mX9_count [.int (1 : Int32)] [.int v3] 0 9 1 _ rfl dL_whole_36 ml_L_39 qX9_count rfl ⟨Nat.le_of_ble_eq_true rfl, Nat.le_of_ble_eq_true rfl⟩ ⟨rfl, rfl⟩ (Nat.le_of_ble_eq_true rfl) sh_0 (by decide) rfl (Nat.le_of_ble_eq_true rfl) (K)
theorem bL_whole_39 {I : Nat → Nat → Int32} {L : Nat → Int64} {Q : Option Value → (Nat → Nat → Int32) → (Nat → Int64) → Prop} {v1 : Int64} {v3 : Int32} {s0 : Int32} {s1 : Int32}  (K1 : (s1 ≤ s0) → XS mL_whole 79 [(0, .ref 0), (1, .long v1)] [] I L Q) (K2 : (¬ s1 ≤ s0) → XS mL_whole 42 [(0, .ref 0), (1, .long v1), (3, .int v3)] [] I L Q) : XS mL_whole 39 [(0, .ref 0), (1, .long v1), (3, .int v3)] [.int s1, .int s0] I L Q := by
  exact x_icmp_ge 79 dL_whole_39 (by decide) (fun h => x_sub [0, 1] rfl (K1 h)) (fun h => K2 h)
theorem bL_whole_42 {I : Nat → Nat → Int32} {L : Nat → Int64} {Q : Option Value → (Nat → Nat → Int32) → (Nat → Int64) → Prop} {v1 : Int64} {v3 : Int32}  (K : XS mL_whole 45 [(0, .ref 0), (1, .long v1), (3, .int v3), (4, .int (0 : Int32))] [] I L Q) : XS mL_whole 42 [(0, .ref 0), (1, .long v1), (3, .int v3)] [] I L Q := by
  refine x_iconst (v := (0 : Int32)) dL_whole_42 (by decide) ?_
  refine x_istore [(0, .ref 0), (1, .long v1), (3, .int v3), (4, .int (0 : Int32))] dL_whole_43 (Nat.le_of_ble_eq_true rfl) rfl ?_
  exact K
theorem bL_whole_45 {I : Nat → Nat → Int32} {L : Nat → Int64} {Q : Option Value → (Nat → Nat → Int32) → (Nat → Int64) → Prop} {v1 : Int64} {v3 : Int32} {v4 : Int32}  (K1 : ((6 : Int32) ≤ v4) → XS mL_whole 73 [(0, .ref 0), (1, .long v1), (3, .int v3)] [] I L Q) (K2 : (¬ (6 : Int32) ≤ v4) → XS mL_whole 52 [(0, .ref 0), (1, .long v1), (3, .int v3), (4, .int v4)] [] I L Q) : XS mL_whole 45 [(0, .ref 0), (1, .long v1), (3, .int v3), (4, .int v4)] [] I L Q := by
  refine x_iload 3 dL_whole_45 rfl ?_
  refine x_bipush (v := (6 : Int32)) dL_whole_47 (by decide) ?_
  exact x_icmp_ge 73 dL_whole_49 (by decide) (fun h => x_sub [0, 1, 2] rfl (K1 h)) (fun h => K2 h)
theorem bL_whole_52 {I : Nat → Nat → Int32} {L : Nat → Int64} {Q : Option Value → (Nat → Nat → Int32) → (Nat → Int64) → Prop} {v1 : Int64} {v3 : Int32} {v4 : Int32}  (K : XS mX9_link 0 [(0, .ref 0), (1, .int v3), (2, .int v4)] [] I L (fun r I' L' => XS mL_whole 64 [(0, .ref 0), (3, .int v3), (4, .int v4)] (r.toList ++ [.long ((31 : Int64) * v1)]) I' L' Q)) : XS mL_whole 52 [(0, .ref 0), (1, .long v1), (3, .int v3), (4, .int v4)] [] I L Q := by
  refine x_ldc2 dL_whole_52 ct_L_50 ?_
  refine x_lload_n 1 dL_whole_55 rfl rfl ?_
  refine x_lmul dL_whole_56 ?_
  refine x_aload_n 0 dL_whole_57 rfl rfl ?_
  refine x_iload_n 2 dL_whole_58 rfl rfl ?_
  refine x_iload 3 dL_whole_59 rfl ?_
  refine x_sub [0, 2, 3] rfl ?_
  exact xs_callV mX9_link [.int v3, .int v4] [.long ((31 : Int64) * v1)] 0 9 2 _ rfl dL_whole_61 ml_L_52 qX9_link rfl ⟨Nat.le_of_ble_eq_true rfl, Nat.le_of_ble_eq_true rfl⟩ ⟨rfl, rfl⟩ (Nat.le_of_ble_eq_true rfl) sh_0 (by decide) rfl (Nat.le_of_ble_eq_true rfl) (K)
theorem bL_whole_64 {I : Nat → Nat → Int32} {L : Nat → Int64} {Q : Option Value → (Nat → Nat → Int32) → (Nat → Int64) → Prop} {v3 : Int32} {v4 : Int32} {s0 : Int64} {s1 : Int32}  (K : XS mL_whole 45 [(0, .ref 0), (1, .long (s0 + s1.toInt64)), (3, .int v3), (4, .int (v4 + (1 : Int32)))] [] I L Q) : XS mL_whole 64 [(0, .ref 0), (3, .int v3), (4, .int v4)] [.int s1, .long s0] I L Q := by
  refine x_i2l dL_whole_64 ?_
  refine x_ladd dL_whole_65 ?_
  refine x_lstore_n [(0, .ref 0), (1, .long (s0 + s1.toInt64)), (3, .int v3), (4, .int v4)] dL_whole_66 rfl (Nat.le_of_ble_eq_true rfl) rfl ?_
  refine x_iinc 3 (v4 + (1 : Int32)) [(0, .ref 0), (1, .long (s0 + s1.toInt64)), (3, .int v3), (4, .int (v4 + (1 : Int32)))] dL_whole_67 rfl rfl (Nat.le_of_ble_eq_true rfl) rfl ?_
  exact x_goto 45 dL_whole_70 (by decide) (K)
theorem bL_whole_73 {I : Nat → Nat → Int32} {L : Nat → Int64} {Q : Option Value → (Nat → Nat → Int32) → (Nat → Int64) → Prop} {v1 : Int64} {v3 : Int32}  (K : XS mL_whole 33 [(0, .ref 0), (1, .long v1), (3, .int (v3 + (1 : Int32)))] [] I L Q) : XS mL_whole 73 [(0, .ref 0), (1, .long v1), (3, .int v3)] [] I L Q := by
  refine x_iinc 2 (v3 + (1 : Int32)) [(0, .ref 0), (1, .long v1), (3, .int (v3 + (1 : Int32)))] dL_whole_73 rfl rfl (Nat.le_of_ble_eq_true rfl) rfl ?_
  exact x_goto 33 dL_whole_76 (by decide) (K)
theorem bL_whole_79 {I : Nat → Nat → Int32} {L : Nat → Int64} {Q : Option Value → (Nat → Nat → Int32) → (Nat → Int64) → Prop} {v1 : Int64}  (K : XS mL_whole 81 [(0, .ref 0), (1, .long v1), (3, .int (0 : Int32))] [] I L Q) : XS mL_whole 79 [(0, .ref 0), (1, .long v1)] [] I L Q := by
  refine x_iconst (v := (0 : Int32)) dL_whole_79 (by decide) ?_
  refine x_istore_n [(0, .ref 0), (1, .long v1), (3, .int (0 : Int32))] dL_whole_80 rfl (Nat.le_of_ble_eq_true rfl) rfl ?_
  exact K
theorem bL_whole_81 {I : Nat → Nat → Int32} {L : Nat → Int64} {Q : Option Value → (Nat → Nat → Int32) → (Nat → Int64) → Prop} {v1 : Int64} {v3 : Int32}  (K : XS mX9_count 0 [(0, .ref 0), (1, .int (0 : Int32))] [] I L (fun r I' L' => XS mL_whole 87 [(0, .ref 0), (1, .long v1), (3, .int v3)] (r.toList ++ [.int v3]) I' L' Q)) : XS mL_whole 81 [(0, .ref 0), (1, .long v1), (3, .int v3)] [] I L Q := by
  refine x_iload_n 2 dL_whole_81 rfl rfl ?_
  refine x_aload_n 0 dL_whole_82 rfl rfl ?_
  refine x_iconst (v := (0 : Int32)) dL_whole_83 (by decide) ?_
  exact xs_callV mX9_count [.int (0 : Int32)] [.int v3] 0 9 1 _ rfl dL_whole_84 ml_L_39 qX9_count rfl ⟨Nat.le_of_ble_eq_true rfl, Nat.le_of_ble_eq_true rfl⟩ ⟨rfl, rfl⟩ (Nat.le_of_ble_eq_true rfl) sh_0 (by decide) rfl (Nat.le_of_ble_eq_true rfl) (K)
theorem bL_whole_87 {I : Nat → Nat → Int32} {L : Nat → Int64} {Q : Option Value → (Nat → Nat → Int32) → (Nat → Int64) → Prop} {v1 : Int64} {v3 : Int32} {s0 : Int32} {s1 : Int32}  (K1 : (s1 ≤ s0) → XS mL_whole 109 [(0, .ref 0), (1, .long v1)] [] I L Q) (K2 : (¬ s1 ≤ s0) → XS mL_whole 90 [(0, .ref 0), (1, .long v1), (3, .int v3)] [] I L Q) : XS mL_whole 87 [(0, .ref 0), (1, .long v1), (3, .int v3)] [.int s1, .int s0] I L Q := by
  exact x_icmp_ge 109 dL_whole_87 (by decide) (fun h => x_sub [0, 1] rfl (K1 h)) (fun h => K2 h)
theorem bL_whole_90 {I : Nat → Nat → Int32} {L : Nat → Int64} {Q : Option Value → (Nat → Nat → Int32) → (Nat → Int64) → Prop} {v1 : Int64} {v3 : Int32}  (K : XS mX9_seen 0 [(0, .ref 0), (1, .int v3)] [] I L (fun r I' L' => XS mL_whole 100 [(0, .ref 0), (3, .int v3)] (r.toList ++ [.long ((31 : Int64) * v1)]) I' L' Q)) : XS mL_whole 90 [(0, .ref 0), (1, .long v1), (3, .int v3)] [] I L Q := by
  refine x_ldc2 dL_whole_90 ct_L_50 ?_
  refine x_lload_n 1 dL_whole_93 rfl rfl ?_
  refine x_lmul dL_whole_94 ?_
  refine x_aload_n 0 dL_whole_95 rfl rfl ?_
  refine x_iload_n 2 dL_whole_96 rfl rfl ?_
  refine x_sub [0, 2] rfl ?_
  exact xs_callV mX9_seen [.int v3] [.long ((31 : Int64) * v1)] 0 9 1 _ rfl dL_whole_97 ml_L_55 qX9_seen rfl ⟨Nat.le_of_ble_eq_true rfl, Nat.le_of_ble_eq_true rfl⟩ ⟨rfl, rfl⟩ (Nat.le_of_ble_eq_true rfl) sh_0 (by decide) rfl (Nat.le_of_ble_eq_true rfl) (K)
theorem bL_whole_100 {I : Nat → Nat → Int32} {L : Nat → Int64} {Q : Option Value → (Nat → Nat → Int32) → (Nat → Int64) → Prop} {v3 : Int32} {s0 : Int64} {s1 : Int32}  (K : XS mL_whole 81 [(0, .ref 0), (1, .long (s0 + s1.toInt64)), (3, .int (v3 + (1 : Int32)))] [] I L Q) : XS mL_whole 100 [(0, .ref 0), (3, .int v3)] [.int s1, .long s0] I L Q := by
  refine x_i2l dL_whole_100 ?_
  refine x_ladd dL_whole_101 ?_
  refine x_lstore_n [(0, .ref 0), (1, .long (s0 + s1.toInt64)), (3, .int v3)] dL_whole_102 rfl (Nat.le_of_ble_eq_true rfl) rfl ?_
  refine x_iinc 2 (v3 + (1 : Int32)) [(0, .ref 0), (1, .long (s0 + s1.toInt64)), (3, .int (v3 + (1 : Int32)))] dL_whole_103 rfl rfl (Nat.le_of_ble_eq_true rfl) rfl ?_
  exact x_goto 81 dL_whole_106 (by decide) (K)
theorem bL_whole_109 {I : Nat → Nat → Int32} {L : Nat → Int64} {Q : Option Value → (Nat → Nat → Int32) → (Nat → Int64) → Prop} {v1 : Int64}  (K : XS mL_whole 111 [(0, .ref 0), (1, .long v1), (3, .int (0 : Int32))] [] I L Q) : XS mL_whole 109 [(0, .ref 0), (1, .long v1)] [] I L Q := by
  refine x_iconst (v := (0 : Int32)) dL_whole_109 (by decide) ?_
  refine x_istore_n [(0, .ref 0), (1, .long v1), (3, .int (0 : Int32))] dL_whole_110 rfl (Nat.le_of_ble_eq_true rfl) rfl ?_
  exact K
theorem bL_whole_111 {I : Nat → Nat → Int32} {L : Nat → Int64} {Q : Option Value → (Nat → Nat → Int32) → (Nat → Int64) → Prop} {v1 : Int64} {v3 : Int32}  (K : XS mX9_count 0 [(0, .ref 0), (1, .int (4 : Int32))] [] I L (fun r I' L' => XS mL_whole 117 [(0, .ref 0), (1, .long v1), (3, .int v3)] (r.toList ++ [.int v3]) I' L' Q)) : XS mL_whole 111 [(0, .ref 0), (1, .long v1), (3, .int v3)] [] I L Q := by
  refine x_iload_n 2 dL_whole_111 rfl rfl ?_
  refine x_aload_n 0 dL_whole_112 rfl rfl ?_
  refine x_iconst (v := (4 : Int32)) dL_whole_113 (by decide) ?_
  exact xs_callV mX9_count [.int (4 : Int32)] [.int v3] 0 9 1 _ rfl dL_whole_114 ml_L_39 qX9_count rfl ⟨Nat.le_of_ble_eq_true rfl, Nat.le_of_ble_eq_true rfl⟩ ⟨rfl, rfl⟩ (Nat.le_of_ble_eq_true rfl) sh_0 (by decide) rfl (Nat.le_of_ble_eq_true rfl) (K)
theorem bL_whole_117 {I : Nat → Nat → Int32} {L : Nat → Int64} {Q : Option Value → (Nat → Nat → Int32) → (Nat → Int64) → Prop} {v1 : Int64} {v3 : Int32} {s0 : Int32} {s1 : Int32}  (K1 : (s1 ≤ s0) → XS mL_whole 152 [(0, .ref 0), (1, .long v1)] [] I L Q) (K2 : (¬ s1 ≤ s0) → XS mL_whole 120 [(0, .ref 0), (1, .long v1), (3, .int v3)] [] I L Q) : XS mL_whole 117 [(0, .ref 0), (1, .long v1), (3, .int v3)] [.int s1, .int s0] I L Q := by
  exact x_icmp_ge 152 dL_whole_117 (by decide) (fun h => x_sub [0, 1] rfl (K1 h)) (fun h => K2 h)
theorem bL_whole_120 {I : Nat → Nat → Int32} {L : Nat → Int64} {Q : Option Value → (Nat → Nat → Int32) → (Nat → Int64) → Prop} {v1 : Int64} {v3 : Int32}  (K : XS mX9_segment 0 [(0, .ref 0), (1, .int v3), (2, .int (0 : Int32))] [] I L (fun r I' L' => XS mL_whole 134 [(0, .ref 0), (3, .int v3)] (r.toList ++ [.long (100 : Int64), .long ((31 : Int64) * v1)]) I' L' Q)) : XS mL_whole 120 [(0, .ref 0), (1, .long v1), (3, .int v3)] [] I L Q := by
  refine x_ldc2 dL_whole_120 ct_L_50 ?_
  refine x_lload_n 1 dL_whole_123 rfl rfl ?_
  refine x_lmul dL_whole_124 ?_
  refine x_ldc2 dL_whole_125 ct_L_58 ?_
  refine x_aload_n 0 dL_whole_128 rfl rfl ?_
  refine x_iload_n 2 dL_whole_129 rfl rfl ?_
  refine x_iconst (v := (0 : Int32)) dL_whole_130 (by decide) ?_
  refine x_sub [0, 2] rfl ?_
  exact xs_callV mX9_segment [.int v3, .int (0 : Int32)] [.long (100 : Int64), .long ((31 : Int64) * v1)] 0 9 2 _ rfl dL_whole_131 ml_L_60 qX9_segment rfl ⟨Nat.le_of_ble_eq_true rfl, Nat.le_of_ble_eq_true rfl⟩ ⟨rfl, rfl⟩ (Nat.le_of_ble_eq_true rfl) sh_0 (by decide) rfl (Nat.le_of_ble_eq_true rfl) (K)
theorem bL_whole_134 {I : Nat → Nat → Int32} {L : Nat → Int64} {Q : Option Value → (Nat → Nat → Int32) → (Nat → Int64) → Prop} {v3 : Int32} {s0 : Int64} {s1 : Int64} {s2 : Int32}  (K : XS mX9_segment 0 [(0, .ref 0), (1, .int v3), (2, .int (1 : Int32))] [] I L (fun r I' L' => XS mL_whole 143 [(0, .ref 0), (3, .int v3)] (r.toList ++ [.long (s0 + (s1 * s2.toInt64))]) I' L' Q)) : XS mL_whole 134 [(0, .ref 0), (3, .int v3)] [.int s2, .long s1, .long s0] I L Q := by
  refine x_i2l dL_whole_134 ?_
  refine x_lmul dL_whole_135 ?_
  refine x_ladd dL_whole_136 ?_
  refine x_aload_n 0 dL_whole_137 rfl rfl ?_
  refine x_iload_n 1 dL_whole_138 rfl rfl ?_
  refine x_iconst (v := (1 : Int32)) dL_whole_139 (by decide) ?_
  exact xs_callV mX9_segment [.int v3, .int (1 : Int32)] [.long (s0 + (s1 * s2.toInt64))] 0 9 2 _ rfl dL_whole_140 ml_L_60 qX9_segment rfl ⟨Nat.le_of_ble_eq_true rfl, Nat.le_of_ble_eq_true rfl⟩ ⟨rfl, rfl⟩ (Nat.le_of_ble_eq_true rfl) sh_0 (by decide) rfl (Nat.le_of_ble_eq_true rfl) (K)
theorem bL_whole_143 {I : Nat → Nat → Int32} {L : Nat → Int64} {Q : Option Value → (Nat → Nat → Int32) → (Nat → Int64) → Prop} {v3 : Int32} {s0 : Int64} {s1 : Int32}  (K : XS mL_whole 111 [(0, .ref 0), (1, .long (s0 + s1.toInt64)), (3, .int (v3 + (1 : Int32)))] [] I L Q) : XS mL_whole 143 [(0, .ref 0), (3, .int v3)] [.int s1, .long s0] I L Q := by
  refine x_i2l dL_whole_143 ?_
  refine x_ladd dL_whole_144 ?_
  refine x_lstore_n [(0, .ref 0), (1, .long (s0 + s1.toInt64)), (3, .int v3)] dL_whole_145 rfl (Nat.le_of_ble_eq_true rfl) rfl ?_
  refine x_iinc 2 (v3 + (1 : Int32)) [(0, .ref 0), (1, .long (s0 + s1.toInt64)), (3, .int (v3 + (1 : Int32)))] dL_whole_146 rfl rfl (Nat.le_of_ble_eq_true rfl) rfl ?_
  exact x_goto 111 dL_whole_149 (by decide) (K)
theorem bL_whole_152 {I : Nat → Nat → Int32} {L : Nat → Int64} {Q : Option Value → (Nat → Nat → Int32) → (Nat → Int64) → Prop} {v1 : Int64}  (K : XS mX9_brief 0 [(0, .ref 0), (1, .int (0 : Int32))] [] I L (fun r I' L' => XS mL_whole 162 [(0, .ref 0)] (r.toList ++ [.long ((31 : Int64) * v1)]) I' L' Q)) : XS mL_whole 152 [(0, .ref 0), (1, .long v1)] [] I L Q := by
  refine x_ldc2 dL_whole_152 ct_L_50 ?_
  refine x_lload_n 1 dL_whole_155 rfl rfl ?_
  refine x_lmul dL_whole_156 ?_
  refine x_aload_n 0 dL_whole_157 rfl rfl ?_
  refine x_iconst (v := (0 : Int32)) dL_whole_158 (by decide) ?_
  refine x_sub [0] rfl ?_
  exact xs_callV mX9_brief [.int (0 : Int32)] [.long ((31 : Int64) * v1)] 0 9 1 _ rfl dL_whole_159 ml_L_63 qX9_brief rfl ⟨Nat.le_of_ble_eq_true rfl, Nat.le_of_ble_eq_true rfl⟩ ⟨rfl, rfl⟩ (Nat.le_of_ble_eq_true rfl) sh_0 (by decide) rfl (Nat.le_of_ble_eq_true rfl) (K)
theorem bL_whole_162 {I : Nat → Nat → Int32} {L : Nat → Int64} {Q : Option Value → (Nat → Nat → Int32) → (Nat → Int64) → Prop} {s0 : Int64} {s1 : Int32}  (K : XS mX9_brief 0 [(0, .ref 0), (1, .int (-1 : Int32))] [] I L (fun r I' L' => XS mL_whole 172 [] (r.toList ++ [.long (1000 : Int64), .long (s0 + s1.toInt64)]) I' L' Q)) : XS mL_whole 162 [(0, .ref 0)] [.int s1, .long s0] I L Q := by
  refine x_i2l dL_whole_162 ?_
  refine x_ladd dL_whole_163 ?_
  refine x_ldc2 dL_whole_164 ct_L_66 ?_
  refine x_aload_n 0 dL_whole_167 rfl rfl ?_
  refine x_iconst (v := (-1 : Int32)) dL_whole_168 (by decide) ?_
  refine x_sub [] rfl ?_
  exact xs_callV mX9_brief [.int (-1 : Int32)] [.long (1000 : Int64), .long (s0 + s1.toInt64)] 0 9 1 _ rfl dL_whole_169 ml_L_63 qX9_brief rfl ⟨Nat.le_of_ble_eq_true rfl, Nat.le_of_ble_eq_true rfl⟩ ⟨rfl, rfl⟩ (Nat.le_of_ble_eq_true rfl) sh_0 (by decide) rfl (Nat.le_of_ble_eq_true rfl) (K)
theorem bL_whole_172 {I : Nat → Nat → Int32} {L : Nat → Int64} {Q : Option Value → (Nat → Nat → Int32) → (Nat → Int64) → Prop} {s0 : Int64} {s1 : Int64} {s2 : Int32}  (K : Q (some (.long (s0 + (s1 * s2.toInt64)))) I L) : XS mL_whole 172 [] [.int s2, .long s1, .long s0] I L Q := by
  refine x_i2l dL_whole_172 ?_
  refine x_lmul dL_whole_173 ?_
  refine x_ladd dL_whole_174 ?_
  exact xs_lret dL_whole_175 rfl K
theorem bL_goes_0 {I : Nat → Nat → Int32} {L : Nat → Int64} {Q : Option Value → (Nat → Nat → Int32) → (Nat → Int64) → Prop} {v2 : Int32}  (K : XS mX9_send 0 [(0, .ref 0), (1, .int v2)] [] I L (fun r I' L' => XS mL_goes 5 [(0, .ref 0), (1, .ref 49), (2, .int v2)] (r.toList ++ []) I' L' Q)) : XS mL_goes 0 [(0, .ref 0), (1, .ref 49), (2, .int v2)] [] I L Q := by
  refine x_aload_n 0 dL_goes_0 rfl rfl ?_
  refine x_iload_n 2 dL_goes_1 rfl rfl ?_
  exact xs_callV mX9_send [.int v2] [] 0 9 1 _ rfl dL_goes_2 ml_L_116 qX9_send rfl ⟨Nat.le_of_ble_eq_true rfl, Nat.le_of_ble_eq_true rfl⟩ ⟨rfl, rfl⟩ (Nat.le_of_ble_eq_true rfl) sh_0 (by decide) rfl (Nat.le_of_ble_eq_true rfl) (K)
theorem bL_goes_5 {I : Nat → Nat → Int32} {L : Nat → Int64} {Q : Option Value → (Nat → Nat → Int32) → (Nat → Int64) → Prop} {v2 : Int32} {s0 : Int32}  (K : XS mX9_way 0 [(0, .ref 0), (1, .int (-1 : Int32))] [] I L (fun r I' L' => XS mL_goes 11 [(0, .ref 0), (1, .ref 49), (2, .int v2), (3, .int s0)] (r.toList ++ []) I' L' Q)) : XS mL_goes 5 [(0, .ref 0), (1, .ref 49), (2, .int v2)] [.int s0] I L Q := by
  refine x_istore_n [(0, .ref 0), (1, .ref 49), (2, .int v2), (3, .int s0)] dL_goes_5 rfl (Nat.le_of_ble_eq_true rfl) rfl ?_
  refine x_aload_n 0 dL_goes_6 rfl rfl ?_
  refine x_iconst (v := (-1 : Int32)) dL_goes_7 (by decide) ?_
  exact xs_callV mX9_way [.int (-1 : Int32)] [] 0 9 1 _ rfl dL_goes_8 ml_L_119 qX9_way rfl ⟨Nat.le_of_ble_eq_true rfl, Nat.le_of_ble_eq_true rfl⟩ ⟨rfl, rfl⟩ (Nat.le_of_ble_eq_true rfl) sh_0 (by decide) rfl (Nat.le_of_ble_eq_true rfl) (K)
theorem bL_goes_11 {I : Nat → Nat → Int32} {L : Nat → Int64} {Q : Option Value → (Nat → Nat → Int32) → (Nat → Int64) → Prop} {v2 : Int32} {v3 : Int32} {s0 : Int32}  (K1 : ((I 3136 0) ≤ v3) → XS mL_goes 84 [] [] I L Q) (K2 : (¬ (I 3136 0) ≤ v3) → XS mL_goes 20 [(0, .ref 0), (1, .ref 49), (2, .int v2), (3, .int v3), (4, .int s0)] [] I L Q) : XS mL_goes 11 [(0, .ref 0), (1, .ref 49), (2, .int v2), (3, .int v3)] [.int s0] I L Q := by
  refine x_istore [(0, .ref 0), (1, .ref 49), (2, .int v2), (3, .int v3), (4, .int s0)] dL_goes_11 (Nat.le_of_ble_eq_true rfl) rfl ?_
  refine x_iload_n 3 dL_goes_13 rfl rfl ?_
  refine x_aload_n 1 dL_goes_14 rfl rfl ?_
  refine x_iconst (v := (0 : Int32)) dL_goes_15 (by decide) ?_
  refine xs_iald 3136 (0) dL_goes_16 sh_49 rfl (by decide) (x_vpin (by decide)) ?_
  exact x_icmp_ge 84 dL_goes_17 (by decide) (fun h => x_sub [] rfl (K1 h)) (fun h => K2 h)
theorem bL_goes_20 {I : Nat → Nat → Int32} {L : Nat → Int64} {Q : Option Value → (Nat → Nat → Int32) → (Nat → Int64) → Prop} {v2 : Int32} {v3 : Int32} {v4 : Int32}  (K1 : (0 ≤ v3) → XS mL_goes 36 [(0, .ref 0), (1, .ref 49), (2, .int v2), (3, .int v3), (4, .int v4)] [] I L Q) (K2 : (¬ 0 ≤ v3) → XS mL_goes 24 [(0, .ref 0), (1, .ref 49), (2, .int v2), (3, .int v3), (4, .int v4)] [] I L Q) : XS mL_goes 20 [(0, .ref 0), (1, .ref 49), (2, .int v2), (3, .int v3), (4, .int v4)] [] I L Q := by
  refine x_iload_n 3 dL_goes_20 rfl rfl ?_
  exact x_if_ge 36 dL_goes_21 (by decide) (fun h => K1 h) (fun h => K2 h)
theorem bL_goes_24 {I : Nat → Nat → Int32} {L : Nat → Int64} {Q : Option Value → (Nat → Nat → Int32) → (Nat → Int64) → Prop} {v2 : Int32} {v3 : Int32} {v4 : Int32}  (K1 : ((-11 : Int32) < v3) → XS mL_goes 84 [] [] I L Q) (K2 : (¬ (-11 : Int32) < v3) → XS mL_goes 30 [(0, .ref 0), (1, .ref 49), (2, .int v2), (3, .int v3), (4, .int v4)] [] I L Q) : XS mL_goes 24 [(0, .ref 0), (1, .ref 49), (2, .int v2), (3, .int v3), (4, .int v4)] [] I L Q := by
  refine x_iload_n 3 dL_goes_24 rfl rfl ?_
  refine x_bipush (v := (-11 : Int32)) dL_goes_25 (by decide) ?_
  exact x_icmp_gt 84 dL_goes_27 (by decide) (fun h => x_sub [] rfl (K1 h)) (fun h => K2 h)
theorem bL_goes_30 {I : Nat → Nat → Int32} {L : Nat → Int64} {Q : Option Value → (Nat → Nat → Int32) → (Nat → Int64) → Prop} {v2 : Int32} {v3 : Int32} {v4 : Int32}  (K1 : (v3 < (-14 : Int32)) → XS mL_goes 84 [] [] I L Q) (K2 : (¬ v3 < (-14 : Int32)) → XS mL_goes 36 [(0, .ref 0), (1, .ref 49), (2, .int v2), (3, .int v3), (4, .int v4)] [] I L Q) : XS mL_goes 30 [(0, .ref 0), (1, .ref 49), (2, .int v2), (3, .int v3), (4, .int v4)] [] I L Q := by
  refine x_iload_n 3 dL_goes_30 rfl rfl ?_
  refine x_bipush (v := (-14 : Int32)) dL_goes_31 (by decide) ?_
  exact x_icmp_lt 84 dL_goes_33 (by decide) (fun h => x_sub [] rfl (K1 h)) (fun h => K2 h)
theorem bL_goes_36 {I : Nat → Nat → Int32} {L : Nat → Int64} {Q : Option Value → (Nat → Nat → Int32) → (Nat → Int64) → Prop} {v2 : Int32} {v3 : Int32} {v4 : Int32}  (K1 : (v4 < 0) → XS mL_goes 84 [] [] I L Q) (K2 : (¬ v4 < 0) → XS mL_goes 41 [(0, .ref 0), (1, .ref 49), (2, .int v2), (3, .int v3), (4, .int v4)] [] I L Q) : XS mL_goes 36 [(0, .ref 0), (1, .ref 49), (2, .int v2), (3, .int v3), (4, .int v4)] [] I L Q := by
  refine x_iload 4 dL_goes_36 rfl ?_
  exact x_if_lt 84 dL_goes_38 (by decide) (fun h => x_sub [] rfl (K1 h)) (fun h => K2 h)
theorem bL_goes_41 {I : Nat → Nat → Int32} {L : Nat → Int64} {Q : Option Value → (Nat → Nat → Int32) → (Nat → Int64) → Prop} {v2 : Int32} {v3 : Int32} {v4 : Int32}  (K1 : ((20 : Int32) < v4) → XS mL_goes 84 [] [] I L Q) (K2 : (¬ (20 : Int32) < v4) → XS mL_goes 48 [(0, .ref 0), (1, .ref 49), (2, .int v2), (3, .int v3), (4, .int v4)] [] I L Q) : XS mL_goes 41 [(0, .ref 0), (1, .ref 49), (2, .int v2), (3, .int v3), (4, .int v4)] [] I L Q := by
  refine x_iload 4 dL_goes_41 rfl ?_
  refine x_bipush (v := (20 : Int32)) dL_goes_43 (by decide) ?_
  exact x_icmp_gt 84 dL_goes_45 (by decide) (fun h => x_sub [] rfl (K1 h)) (fun h => K2 h)
theorem bL_goes_48 {I : Nat → Nat → Int32} {L : Nat → Int64} {Q : Option Value → (Nat → Nat → Int32) → (Nat → Int64) → Prop} {v2 : Int32} {v3 : Int32} {v4 : Int32}  (K : XS mX9_way 0 [(0, .ref 0), (1, .int (0 : Int32))] [] I L (fun r I' L' => XS mL_goes 53 [(0, .ref 0), (1, .ref 49), (2, .int v2), (3, .int v3), (4, .int v4)] (r.toList ++ []) I' L' Q)) : XS mL_goes 48 [(0, .ref 0), (1, .ref 49), (2, .int v2), (3, .int v3), (4, .int v4)] [] I L Q := by
  refine x_aload_n 0 dL_goes_48 rfl rfl ?_
  refine x_iconst (v := (0 : Int32)) dL_goes_49 (by decide) ?_
  exact xs_callV mX9_way [.int (0 : Int32)] [] 0 9 1 _ rfl dL_goes_50 ml_L_119 qX9_way rfl ⟨Nat.le_of_ble_eq_true rfl, Nat.le_of_ble_eq_true rfl⟩ ⟨rfl, rfl⟩ (Nat.le_of_ble_eq_true rfl) sh_0 (by decide) rfl (Nat.le_of_ble_eq_true rfl) (K)
theorem bL_goes_53 {I : Nat → Nat → Int32} {L : Nat → Int64} {Q : Option Value → (Nat → Nat → Int32) → (Nat → Int64) → Prop} {v2 : Int32} {v3 : Int32} {v4 : Int32} {s0 : Int32}  (K1 : (¬ s0 = v2) → XS mL_goes 84 [] [] I L Q) (K2 : (s0 = v2) → XS mL_goes 57 [(0, .ref 0), (1, .ref 49), (3, .int v3), (4, .int v4)] [] I L Q) : XS mL_goes 53 [(0, .ref 0), (1, .ref 49), (2, .int v2), (3, .int v3), (4, .int v4)] [.int s0] I L Q := by
  refine x_iload_n 2 dL_goes_53 rfl rfl ?_
  exact x_icmp_ne 84 dL_goes_54 (by decide) (fun h => x_sub [] rfl (K1 h)) (fun h => x_sub [0, 1, 3, 4] rfl (K2 h))
theorem bL_goes_57 {I : Nat → Nat → Int32} {L : Nat → Int64} {Q : Option Value → (Nat → Nat → Int32) → (Nat → Int64) → Prop} {v3 : Int32} {v4 : Int32}  (K1 : (v3 < 0) → XS mL_goes 71 [(0, .ref 0), (1, .ref 49), (3, .int v3), (4, .int v4)] [] I L Q) (K2 : (¬ v3 < 0) → XS mL_goes 61 [(0, .ref 0), (1, .ref 49), (3, .int v3), (4, .int v4)] [] I L Q) : XS mL_goes 57 [(0, .ref 0), (1, .ref 49), (3, .int v3), (4, .int v4)] [] I L Q := by
  refine x_iload_n 2 dL_goes_57 rfl rfl ?_
  exact x_if_lt 71 dL_goes_58 (by decide) (fun h => K1 h) (fun h => K2 h)
theorem bL_goes_61 {I : Nat → Nat → Int32} {L : Nat → Int64} {Q : Option Value → (Nat → Nat → Int32) → (Nat → Int64) → Prop} {v3 : Int32} {v4 : Int32}  (K : XS mX9_way 0 [(0, .ref 0), (1, .int v4)] [] I L (fun r I' L' => XS mL_goes 67 [(0, .ref 0), (1, .ref 49), (3, .int v3), (4, .int v4)] (r.toList ++ []) I' L' Q)) : XS mL_goes 61 [(0, .ref 0), (1, .ref 49), (3, .int v3), (4, .int v4)] [] I L Q := by
  refine x_aload_n 0 dL_goes_61 rfl rfl ?_
  refine x_iload 3 dL_goes_62 rfl ?_
  exact xs_callV mX9_way [.int v4] [] 0 9 1 _ rfl dL_goes_64 ml_L_119 qX9_way rfl ⟨Nat.le_of_ble_eq_true rfl, Nat.le_of_ble_eq_true rfl⟩ ⟨rfl, rfl⟩ (Nat.le_of_ble_eq_true rfl) sh_0 (by decide) rfl (Nat.le_of_ble_eq_true rfl) (K)
theorem bL_goes_67 {I : Nat → Nat → Int32} {L : Nat → Int64} {Q : Option Value → (Nat → Nat → Int32) → (Nat → Int64) → Prop} {v3 : Int32} {v4 : Int32} {s0 : Int32}  (K1 : (¬ s0 = v3) → XS mL_goes 84 [] [] I L Q) (K2 : (s0 = v3) → XS mL_goes 71 [(0, .ref 0), (1, .ref 49), (3, .int v3), (4, .int v4)] [] I L Q) : XS mL_goes 67 [(0, .ref 0), (1, .ref 49), (3, .int v3), (4, .int v4)] [.int s0] I L Q := by
  refine x_iload_n 2 dL_goes_67 rfl rfl ?_
  exact x_icmp_ne 84 dL_goes_68 (by decide) (fun h => x_sub [] rfl (K1 h)) (fun h => K2 h)
theorem bL_goes_71 {I : Nat → Nat → Int32} {L : Nat → Int64} {Q : Option Value → (Nat → Nat → Int32) → (Nat → Int64) → Prop} {v3 : Int32} {v4 : Int32}  (K1 : (¬ v3 = (-14 : Int32)) → XS mL_goes 86 [(0, .ref 0), (1, .ref 49), (4, .int v4)] [] I L Q) (K2 : (v3 = (-14 : Int32)) → XS mL_goes 77 [(0, .ref 0), (1, .ref 49), (4, .int v4)] [] I L Q) : XS mL_goes 71 [(0, .ref 0), (1, .ref 49), (3, .int v3), (4, .int v4)] [] I L Q := by
  refine x_iload_n 2 dL_goes_71 rfl rfl ?_
  refine x_bipush (v := (-14 : Int32)) dL_goes_72 (by decide) ?_
  exact x_icmp_ne 86 dL_goes_74 (by decide) (fun h => x_sub [0, 1, 3] rfl (K1 h)) (fun h => x_sub [0, 1, 3] rfl (K2 h))
theorem bL_goes_77 {I : Nat → Nat → Int32} {L : Nat → Int64} {Q : Option Value → (Nat → Nat → Int32) → (Nat → Int64) → Prop} {v4 : Int32}  (K1 : (v4 = (20 : Int32)) → XS mL_goes 86 [(0, .ref 0), (1, .ref 49), (4, .int v4)] [] I L Q) (K2 : (¬ v4 = (20 : Int32)) → XS mL_goes 84 [] [] I L Q) : XS mL_goes 77 [(0, .ref 0), (1, .ref 49), (4, .int v4)] [] I L Q := by
  refine x_iload 2 dL_goes_77 rfl ?_
  refine x_bipush (v := (20 : Int32)) dL_goes_79 (by decide) ?_
  exact x_icmp_eq 86 dL_goes_81 (by decide) (fun h => K1 h) (fun h => x_sub [] rfl (K2 h))
theorem bL_goes_84 {I : Nat → Nat → Int32} {L : Nat → Int64} {Q : Option Value → (Nat → Nat → Int32) → (Nat → Int64) → Prop}   (K : Q (some (.int (0 : Int32))) I L) : XS mL_goes 84 [] [] I L Q := by
  refine x_iconst (v := (0 : Int32)) dL_goes_84 (by decide) ?_
  exact xs_iret dL_goes_85 rfl (x_nar _ (Or.inl rfl)) K
theorem bL_goes_86 {I : Nat → Nat → Int32} {L : Nat → Int64} {Q : Option Value → (Nat → Nat → Int32) → (Nat → Int64) → Prop} {v4 : Int32}  (K : XS mL_goes 89 [(0, .ref 0), (1, .ref 49), (4, .int v4), (5, .int (1 : Int32))] [] I L Q) : XS mL_goes 86 [(0, .ref 0), (1, .ref 49), (4, .int v4)] [] I L Q := by
  refine x_iconst (v := (1 : Int32)) dL_goes_86 (by decide) ?_
  refine x_istore [(0, .ref 0), (1, .ref 49), (4, .int v4), (5, .int (1 : Int32))] dL_goes_87 (Nat.le_of_ble_eq_true rfl) rfl ?_
  exact K
theorem bL_goes_89 {I : Nat → Nat → Int32} {L : Nat → Int64} {Q : Option Value → (Nat → Nat → Int32) → (Nat → Int64) → Prop} {v4 : Int32} {v5 : Int32}  (K1 : (v4 < v5) → XS mL_goes 151 [] [] I L Q) (K2 : (¬ v4 < v5) → XS mL_goes 96 [(0, .ref 0), (1, .ref 49), (4, .int v4), (5, .int v5)] [] I L Q) : XS mL_goes 89 [(0, .ref 0), (1, .ref 49), (4, .int v4), (5, .int v5)] [] I L Q := by
  refine x_iload 3 dL_goes_89 rfl ?_
  refine x_iload 2 dL_goes_91 rfl ?_
  exact x_icmp_gt 151 dL_goes_93 (by decide) (fun h => x_sub [] rfl (K1 h)) (fun h => K2 h)
theorem bL_goes_96 {I : Nat → Nat → Int32} {L : Nat → Int64} {Q : Option Value → (Nat → Nat → Int32) → (Nat → Int64) → Prop} {v4 : Int32} {v5 : Int32}  (K : XS mX9_way 0 [(0, .ref 0), (1, .int (v5 - (1 : Int32)))] [] I L (fun r I' L' => XS mL_goes 105 [(0, .ref 0), (1, .ref 49), (4, .int v4), (5, .int v5)] (r.toList ++ [.ref 49]) I' L' Q)) : XS mL_goes 96 [(0, .ref 0), (1, .ref 49), (4, .int v4), (5, .int v5)] [] I L Q := by
  refine x_aload_n 1 dL_goes_96 rfl rfl ?_
  refine x_aload_n 0 dL_goes_97 rfl rfl ?_
  refine x_iload 3 dL_goes_98 rfl ?_
  refine x_iconst (v := (1 : Int32)) dL_goes_100 (by decide) ?_
  refine x_isub dL_goes_101 ?_
  exact xs_callV mX9_way [.int (v5 - (1 : Int32))] [.ref 49] 0 9 1 _ rfl dL_goes_102 ml_L_119 qX9_way rfl ⟨Nat.le_of_ble_eq_true rfl, Nat.le_of_ble_eq_true rfl⟩ ⟨rfl, rfl⟩ (Nat.le_of_ble_eq_true rfl) sh_0 (by decide) rfl (Nat.le_of_ble_eq_true rfl) (K)
theorem bL_goes_105 {I : Nat → Nat → Int32} {L : Nat → Int64} {Q : Option Value → (Nat → Nat → Int32) → (Nat → Int64) → Prop} {v4 : Int32} {v5 : Int32} {s1 : Int32}  (K : XS mX9_way 0 [(0, .ref 0), (1, .int v5)] [] I L (fun r I' L' => XS mL_goes 111 [(0, .ref 0), (1, .ref 49), (4, .int v4), (5, .int v5)] (r.toList ++ [.int s1, .ref 49]) I' L' Q)) : XS mL_goes 105 [(0, .ref 0), (1, .ref 49), (4, .int v4), (5, .int v5)] [.int s1, .ref 49] I L Q := by
  refine x_aload_n 0 dL_goes_105 rfl rfl ?_
  refine x_iload 3 dL_goes_106 rfl ?_
  exact xs_callV mX9_way [.int v5] [.int s1, .ref 49] 0 9 1 _ rfl dL_goes_108 ml_L_119 qX9_way rfl ⟨Nat.le_of_ble_eq_true rfl, Nat.le_of_ble_eq_true rfl⟩ ⟨rfl, rfl⟩ (Nat.le_of_ble_eq_true rfl) sh_0 (by decide) rfl (Nat.le_of_ble_eq_true rfl) (K)
theorem bL_goes_111 {I : Nat → Nat → Int32} {L : Nat → Int64} {Q : Option Value → (Nat → Nat → Int32) → (Nat → Int64) → Prop} {v4 : Int32} {v5 : Int32} {s1 : Int32} {s2 : Int32}  (K : XS mL_linkOf 0 [(0, .ref 49), (1, .int s1), (2, .int s2)] [] I L (fun r I' L' => XS mL_goes 114 [(0, .ref 0), (1, .ref 49), (4, .int v4), (5, .int v5)] (r.toList ++ []) I' L' Q)) : XS mL_goes 111 [(0, .ref 0), (1, .ref 49), (4, .int v4), (5, .int v5)] [.int s2, .int s1, .ref 49] I L Q := by
  exact xs_callS mL_linkOf [.ref 49, .int s1, .int s2] [] 3 _ rfl dL_goes_111 ml_L_29 qL_linkOf rfl ⟨Nat.le_of_ble_eq_true rfl, Nat.le_of_ble_eq_true rfl⟩ ⟨rfl, rfl⟩ (Nat.le_of_ble_eq_true rfl) (Nat.le_of_ble_eq_true rfl) (K)
theorem bL_goes_114 {I : Nat → Nat → Int32} {L : Nat → Int64} {Q : Option Value → (Nat → Nat → Int32) → (Nat → Int64) → Prop} {v4 : Int32} {v5 : Int32} {s0 : Int32}  (K1 : (s0 < 0) → XS mL_goes 143 [] [] I L Q) (K2 : (¬ s0 < 0) → XS mL_goes 121 [(0, .ref 0), (1, .ref 49), (4, .int v4), (5, .int v5), (6, .int s0)] [] I L Q) : XS mL_goes 114 [(0, .ref 0), (1, .ref 49), (4, .int v4), (5, .int v5)] [.int s0] I L Q := by
  refine x_istore [(0, .ref 0), (1, .ref 49), (4, .int v4), (5, .int v5), (6, .int s0)] dL_goes_114 (Nat.le_of_ble_eq_true rfl) rfl ?_
  refine x_iload 4 dL_goes_116 rfl ?_
  exact x_if_lt 143 dL_goes_118 (by decide) (fun h => x_sub [] rfl (K1 h)) (fun h => K2 h)
theorem bL_goes_121 {I : Nat → Nat → Int32} {L : Nat → Int64} {Q : Option Value → (Nat → Nat → Int32) → (Nat → Int64) → Prop} {v4 : Int32} {v5 : Int32} {v6 : Int32}  (K : XS mX9_link 0 [(0, .ref 0), (1, .int v6), (2, .int (4 : Int32))] [] I L (fun r I' L' => XS mL_goes 128 [(0, .ref 0), (1, .ref 49), (4, .int v4), (5, .int v5), (6, .int v6)] (r.toList ++ []) I' L' Q)) : XS mL_goes 121 [(0, .ref 0), (1, .ref 49), (4, .int v4), (5, .int v5), (6, .int v6)] [] I L Q := by
  refine x_aload_n 0 dL_goes_121 rfl rfl ?_
  refine x_iload 4 dL_goes_122 rfl ?_
  refine x_iconst (v := (4 : Int32)) dL_goes_124 (by decide) ?_
  exact xs_callV mX9_link [.int v6, .int (4 : Int32)] [] 0 9 2 _ rfl dL_goes_125 ml_L_52 qX9_link rfl ⟨Nat.le_of_ble_eq_true rfl, Nat.le_of_ble_eq_true rfl⟩ ⟨rfl, rfl⟩ (Nat.le_of_ble_eq_true rfl) sh_0 (by decide) rfl (Nat.le_of_ble_eq_true rfl) (K)
theorem bL_goes_128 {I : Nat → Nat → Int32} {L : Nat → Int64} {Q : Option Value → (Nat → Nat → Int32) → (Nat → Int64) → Prop} {v4 : Int32} {v5 : Int32} {v6 : Int32} {s0 : Int32}  (K1 : (¬ s0 = (1 : Int32)) → XS mL_goes 143 [] [] I L Q) (K2 : (s0 = (1 : Int32)) → XS mL_goes 132 [(0, .ref 0), (1, .ref 49), (4, .int v4), (5, .int v5), (6, .int v6)] [] I L Q) : XS mL_goes 128 [(0, .ref 0), (1, .ref 49), (4, .int v4), (5, .int v5), (6, .int v6)] [.int s0] I L Q := by
  refine x_iconst (v := (1 : Int32)) dL_goes_128 (by decide) ?_
  exact x_icmp_ne 143 dL_goes_129 (by decide) (fun h => x_sub [] rfl (K1 h)) (fun h => K2 h)
theorem bL_goes_132 {I : Nat → Nat → Int32} {L : Nat → Int64} {Q : Option Value → (Nat → Nat → Int32) → (Nat → Int64) → Prop} {v4 : Int32} {v5 : Int32} {v6 : Int32}  (K : XS mX9_link 0 [(0, .ref 0), (1, .int v6), (2, .int (5 : Int32))] [] I L (fun r I' L' => XS mL_goes 139 [(0, .ref 0), (1, .ref 49), (4, .int v4), (5, .int v5)] (r.toList ++ []) I' L' Q)) : XS mL_goes 132 [(0, .ref 0), (1, .ref 49), (4, .int v4), (5, .int v5), (6, .int v6)] [] I L Q := by
  refine x_aload_n 0 dL_goes_132 rfl rfl ?_
  refine x_iload 4 dL_goes_133 rfl ?_
  refine x_iconst (v := (5 : Int32)) dL_goes_135 (by decide) ?_
  refine x_sub [0, 1, 2, 3] rfl ?_
  exact xs_callV mX9_link [.int v6, .int (5 : Int32)] [] 0 9 2 _ rfl dL_goes_136 ml_L_52 qX9_link rfl ⟨Nat.le_of_ble_eq_true rfl, Nat.le_of_ble_eq_true rfl⟩ ⟨rfl, rfl⟩ (Nat.le_of_ble_eq_true rfl) sh_0 (by decide) rfl (Nat.le_of_ble_eq_true rfl) (K)
theorem bL_goes_139 {I : Nat → Nat → Int32} {L : Nat → Int64} {Q : Option Value → (Nat → Nat → Int32) → (Nat → Int64) → Prop} {v4 : Int32} {v5 : Int32} {s0 : Int32}  (K1 : ((1 : Int32) ≤ s0) → XS mL_goes 145 [(0, .ref 0), (1, .ref 49), (4, .int v4), (5, .int v5)] [] I L Q) (K2 : (¬ (1 : Int32) ≤ s0) → XS mL_goes 143 [] [] I L Q) : XS mL_goes 139 [(0, .ref 0), (1, .ref 49), (4, .int v4), (5, .int v5)] [.int s0] I L Q := by
  refine x_iconst (v := (1 : Int32)) dL_goes_139 (by decide) ?_
  exact x_icmp_ge 145 dL_goes_140 (by decide) (fun h => K1 h) (fun h => x_sub [] rfl (K2 h))
theorem bL_goes_143 {I : Nat → Nat → Int32} {L : Nat → Int64} {Q : Option Value → (Nat → Nat → Int32) → (Nat → Int64) → Prop}   (K : Q (some (.int (0 : Int32))) I L) : XS mL_goes 143 [] [] I L Q := by
  refine x_iconst (v := (0 : Int32)) dL_goes_143 (by decide) ?_
  exact xs_iret dL_goes_144 rfl (x_nar _ (Or.inl rfl)) K
theorem bL_goes_145 {I : Nat → Nat → Int32} {L : Nat → Int64} {Q : Option Value → (Nat → Nat → Int32) → (Nat → Int64) → Prop} {v4 : Int32} {v5 : Int32}  (K : XS mL_goes 89 [(0, .ref 0), (1, .ref 49), (4, .int v4), (5, .int (v5 + (1 : Int32)))] [] I L Q) : XS mL_goes 145 [(0, .ref 0), (1, .ref 49), (4, .int v4), (5, .int v5)] [] I L Q := by
  refine x_iinc 3 (v5 + (1 : Int32)) [(0, .ref 0), (1, .ref 49), (4, .int v4), (5, .int (v5 + (1 : Int32)))] dL_goes_145 rfl rfl (Nat.le_of_ble_eq_true rfl) rfl ?_
  exact x_goto 89 dL_goes_148 (by decide) (K)
theorem bL_goes_151 {I : Nat → Nat → Int32} {L : Nat → Int64} {Q : Option Value → (Nat → Nat → Int32) → (Nat → Int64) → Prop}   (K : Q (some (.int (1 : Int32))) I L) : XS mL_goes 151 [] [] I L Q := by
  refine x_iconst (v := (1 : Int32)) dL_goes_151 (by decide) ?_
  exact xs_iret dL_goes_152 rfl (x_nar _ (Or.inr rfl)) K
