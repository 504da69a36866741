/-! ===== blocks ===== -/
theorem bL_arrives_0 {I : Nat → Nat → Int32} {L : Nat → Int64} {Q : Option Value → (Nat → Nat → Int32) → (Nat → Int64) → Prop} {v2 : Int32}  (K : XS mL_arrives 2 [(0, .ref 0), (1, .ref 49), (2, .int v2), (3, .int (0 : Int32))] [] I L Q) : XS mL_arrives 0 [(0, .ref 0), (1, .ref 49), (2, .int v2)] [] I L Q := by
  refine x_iconst (v := (0 : Int32)) dL_arrives_0 (by decide) ?_
  refine x_istore_n [(0, .ref 0), (1, .ref 49), (2, .int v2), (3, .int (0 : Int32))] dL_arrives_1 rfl (Nat.le_of_ble_eq_true rfl) rfl ?_
  exact K
theorem bL_arrives_2 {I : Nat → Nat → Int32} {L : Nat → Int64} {Q : Option Value → (Nat → Nat → Int32) → (Nat → Int64) → Prop} {v2 : Int32} {v3 : Int32}  (K1 : ((I 3136 0) ≤ v3) → XS mL_arrives 25 [(0, .ref 0), (1, .ref 49), (2, .int v2)] [] I L Q) (K2 : (¬ (I 3136 0) ≤ v3) → XS mL_arrives 9 [(0, .ref 0), (1, .ref 49), (2, .int v2), (3, .int v3)] [] I L Q) : XS mL_arrives 2 [(0, .ref 0), (1, .ref 49), (2, .int v2), (3, .int v3)] [] I L Q := by
  refine x_iload_n 3 dL_arrives_2 rfl rfl ?_
  refine x_aload_n 1 dL_arrives_3 rfl rfl ?_
  refine x_iconst (v := (0 : Int32)) dL_arrives_4 (by decide) ?_
  refine xs_iald 3136 (0) dL_arrives_5 sh_49 rfl (by decide) (x_vpin (by decide)) ?_
  exact x_icmp_ge 25 dL_arrives_6 (by decide) (fun h => x_sub [0, 1, 2] rfl (K1 h)) (fun h => K2 h)
theorem bL_arrives_9 {I : Nat → Nat → Int32} {L : Nat → Int64} {Q : Option Value → (Nat → Nat → Int32) → (Nat → Int64) → Prop} {v2 : Int32} {v3 : Int32}  (K : XS mX9_learn 0 [(0, .ref 0), (1, .int v3)] [] I L (fun r I' L' => XS mL_arrives 14 [(0, .ref 0), (1, .ref 49), (2, .int v2), (3, .int v3)] (r.toList ++ []) I' L' Q)) : XS mL_arrives 9 [(0, .ref 0), (1, .ref 49), (2, .int v2), (3, .int v3)] [] I L Q := by
  refine x_aload_n 0 dL_arrives_9 rfl rfl ?_
  refine x_iload_n 3 dL_arrives_10 rfl rfl ?_
  exact xs_callV mX9_learn [.int v3] [] 0 9 1 _ rfl dL_arrives_11 ml_L_82 qX9_learn rfl ⟨Nat.le_of_ble_eq_true rfl, Nat.le_of_ble_eq_true rfl⟩ ⟨rfl, rfl⟩ (Nat.le_of_ble_eq_true rfl) sh_0 (by decide) rfl (Nat.le_of_ble_eq_true rfl) (K)
theorem bL_arrives_14 {I : Nat → Nat → Int32} {L : Nat → Int64} {Q : Option Value → (Nat → Nat → Int32) → (Nat → Int64) → Prop} {v2 : Int32} {v3 : Int32} {s0 : Int32}  (K1 : (0 ≤ s0) → XS mL_arrives 19 [(0, .ref 0), (1, .ref 49), (2, .int v2), (3, .int v3)] [] I L Q) (K2 : (¬ 0 ≤ s0) → XS mL_arrives 17 [] [] I L Q) : XS mL_arrives 14 [(0, .ref 0), (1, .ref 49), (2, .int v2), (3, .int v3)] [.int s0] I L Q := by
  exact x_if_ge 19 dL_arrives_14 (by decide) (fun h => K1 h) (fun h => x_sub [] rfl (K2 h))
theorem bL_arrives_17 {I : Nat → Nat → Int32} {L : Nat → Int64} {Q : Option Value → (Nat → Nat → Int32) → (Nat → Int64) → Prop}   (K : Q (some (.int (0 : Int32))) I L) : XS mL_arrives 17 [] [] I L Q := by
  refine x_iconst (v := (0 : Int32)) dL_arrives_17 (by decide) ?_
  exact xs_iret dL_arrives_18 rfl (x_nar _ (Or.inl rfl)) K
theorem bL_arrives_19 {I : Nat → Nat → Int32} {L : Nat → Int64} {Q : Option Value → (Nat → Nat → Int32) → (Nat → Int64) → Prop} {v2 : Int32} {v3 : Int32}  (K : XS mL_arrives 2 [(0, .ref 0), (1, .ref 49), (2, .int v2), (3, .int (v3 + (1 : Int32)))] [] I L Q) : XS mL_arrives 19 [(0, .ref 0), (1, .ref 49), (2, .int v2), (3, .int v3)] [] I L Q := by
  refine x_iinc 3 (v3 + (1 : Int32)) [(0, .ref 0), (1, .ref 49), (2, .int v2), (3, .int (v3 + (1 : Int32)))] dL_arrives_19 rfl rfl (Nat.le_of_ble_eq_true rfl) rfl ?_
  exact x_goto 2 dL_arrives_22 (by decide) (K)
theorem bL_arrives_25 {I : Nat → Nat → Int32} {L : Nat → Int64} {Q : Option Value → (Nat → Nat → Int32) → (Nat → Int64) → Prop} {v2 : Int32}  (K : XS mX9_count 0 [(0, .ref 0), (1, .int (3 : Int32))] [] I L (fun r I' L' => XS mL_arrives 30 [(0, .ref 0), (1, .ref 49), (2, .int v2)] (r.toList ++ []) I' L' Q)) : XS mL_arrives 25 [(0, .ref 0), (1, .ref 49), (2, .int v2)] [] I L Q := by
  refine x_aload_n 0 dL_arrives_25 rfl rfl ?_
  refine x_iconst (v := (3 : Int32)) dL_arrives_26 (by decide) ?_
  exact xs_callV mX9_count [.int (3 : Int32)] [] 0 9 1 _ rfl dL_arrives_27 ml_L_39 qX9_count rfl ⟨Nat.le_of_ble_eq_true rfl, Nat.le_of_ble_eq_true rfl⟩ ⟨rfl, rfl⟩ (Nat.le_of_ble_eq_true rfl) sh_0 (by decide) rfl (Nat.le_of_ble_eq_true rfl) (K)
theorem bL_arrives_30 {I : Nat → Nat → Int32} {L : Nat → Int64} {Q : Option Value → (Nat → Nat → Int32) → (Nat → Int64) → Prop} {v2 : Int32} {s0 : Int32}  (K1 : (¬ s0 = 0) → XS mL_arrives 50 [] [] I L Q) (K2 : (s0 = 0) → XS mL_arrives 33 [(0, .ref 0), (1, .ref 49), (2, .int v2)] [] I L Q) : XS mL_arrives 30 [(0, .ref 0), (1, .ref 49), (2, .int v2)] [.int s0] I L Q := by
  exact x_if_ne 50 dL_arrives_30 (by decide) (fun h => x_sub [] rfl (K1 h)) (fun h => K2 h)
theorem bL_arrives_33 {I : Nat → Nat → Int32} {L : Nat → Int64} {Q : Option Value → (Nat → Nat → Int32) → (Nat → Int64) → Prop} {v2 : Int32}  (K : XS mX9_order 0 [(0, .ref 0), (1, .int (-1 : Int32))] [] I L (fun r I' L' => XS mL_arrives 38 [(0, .ref 0), (1, .ref 49), (2, .int v2)] (r.toList ++ []) I' L' Q)) : XS mL_arrives 33 [(0, .ref 0), (1, .ref 49), (2, .int v2)] [] I L Q := by
  refine x_aload_n 0 dL_arrives_33 rfl rfl ?_
  refine x_iconst (v := (-1 : Int32)) dL_arrives_34 (by decide) ?_
  exact xs_callV mX9_order [.int (-1 : Int32)] [] 0 9 1 _ rfl dL_arrives_35 ml_L_100 qX9_order rfl ⟨Nat.le_of_ble_eq_true rfl, Nat.le_of_ble_eq_true rfl⟩ ⟨rfl, rfl⟩ (Nat.le_of_ble_eq_true rfl) sh_0 (by decide) rfl (Nat.le_of_ble_eq_true rfl) (K)
theorem bL_arrives_38 {I : Nat → Nat → Int32} {L : Nat → Int64} {Q : Option Value → (Nat → Nat → Int32) → (Nat → Int64) → Prop} {v2 : Int32} {s0 : Int32}  (K1 : (¬ s0 = 0) → XS mL_arrives 50 [] [] I L Q) (K2 : (s0 = 0) → XS mL_arrives 41 [(0, .ref 0), (1, .ref 49), (2, .int v2)] [] I L Q) : XS mL_arrives 38 [(0, .ref 0), (1, .ref 49), (2, .int v2)] [.int s0] I L Q := by
  exact x_if_ne 50 dL_arrives_38 (by decide) (fun h => x_sub [] rfl (K1 h)) (fun h => K2 h)
theorem bL_arrives_41 {I : Nat → Nat → Int32} {L : Nat → Int64} {Q : Option Value → (Nat → Nat → Int32) → (Nat → Int64) → Prop} {v2 : Int32}  (K : XS mX9_order 0 [(0, .ref 0), (1, .int (0 : Int32))] [] I L (fun r I' L' => XS mL_arrives 46 [(0, .ref 0), (1, .ref 49), (2, .int v2)] (r.toList ++ []) I' L' Q)) : XS mL_arrives 41 [(0, .ref 0), (1, .ref 49), (2, .int v2)] [] I L Q := by
  refine x_aload_n 0 dL_arrives_41 rfl rfl ?_
  refine x_iconst (v := (0 : Int32)) dL_arrives_42 (by decide) ?_
  exact xs_callV mX9_order [.int (0 : Int32)] [] 0 9 1 _ rfl dL_arrives_43 ml_L_100 qX9_order rfl ⟨Nat.le_of_ble_eq_true rfl, Nat.le_of_ble_eq_true rfl⟩ ⟨rfl, rfl⟩ (Nat.le_of_ble_eq_true rfl) sh_0 (by decide) rfl (Nat.le_of_ble_eq_true rfl) (K)
theorem bL_arrives_46 {I : Nat → Nat → Int32} {L : Nat → Int64} {Q : Option Value → (Nat → Nat → Int32) → (Nat → Int64) → Prop} {v2 : Int32} {s0 : Int32}  (K1 : (s0 = (-1 : Int32)) → XS mL_arrives 52 [(0, .ref 0), (1, .ref 49), (2, .int v2)] [] I L Q) (K2 : (¬ s0 = (-1 : Int32)) → XS mL_arrives 50 [] [] I L Q) : XS mL_arrives 46 [(0, .ref 0), (1, .ref 49), (2, .int v2)] [.int s0] I L Q := by
  refine x_iconst (v := (-1 : Int32)) dL_arrives_46 (by decide) ?_
  exact x_icmp_eq 52 dL_arrives_47 (by decide) (fun h => K1 h) (fun h => x_sub [] rfl (K2 h))
theorem bL_arrives_50 {I : Nat → Nat → Int32} {L : Nat → Int64} {Q : Option Value → (Nat → Nat → Int32) → (Nat → Int64) → Prop}   (K : Q (some (.int (0 : Int32))) I L) : XS mL_arrives 50 [] [] I L Q := by
  refine x_iconst (v := (0 : Int32)) dL_arrives_50 (by decide) ?_
  exact xs_iret dL_arrives_51 rfl (x_nar _ (Or.inl rfl)) K
theorem bL_arrives_52 {I : Nat → Nat → Int32} {L : Nat → Int64} {Q : Option Value → (Nat → Nat → Int32) → (Nat → Int64) → Prop} {v2 : Int32}  (K : XS mX9_clear 0 [(0, .ref 0)] [] I L (fun r I' L' => XS mL_arrives 56 [(0, .ref 0), (1, .ref 49), (2, .int v2)] (r.toList ++ []) I' L' Q)) : XS mL_arrives 52 [(0, .ref 0), (1, .ref 49), (2, .int v2)] [] I L Q := by
  refine x_aload_n 0 dL_arrives_52 rfl rfl ?_
  exact xs_callV mX9_clear [] [] 0 9 0 _ rfl dL_arrives_53 ml_L_122 qX9_clear rfl ⟨Nat.le_of_ble_eq_true rfl, Nat.le_of_ble_eq_true rfl⟩ ⟨rfl, rfl⟩ (Nat.le_of_ble_eq_true rfl) sh_0 (by decide) rfl (Nat.le_of_ble_eq_true rfl) (K)
theorem bL_arrives_56 {I : Nat → Nat → Int32} {L : Nat → Int64} {Q : Option Value → (Nat → Nat → Int32) → (Nat → Int64) → Prop} {v2 : Int32} {s0 : Int32}  (K : XS mL_part 0 [(0, .int v2), (1, .int (I 3136 0))] [] I L (fun r I' L' => XS mL_arrives 64 [(0, .ref 0), (1, .ref 49), (2, .int v2)] (r.toList ++ []) I' L' Q)) : XS mL_arrives 56 [(0, .ref 0), (1, .ref 49), (2, .int v2)] [.int s0] I L Q := by
  refine x_pop dL_arrives_56 rfl ?_
  refine x_iload_n 2 dL_arrives_57 rfl rfl ?_
  refine x_aload_n 1 dL_arrives_58 rfl rfl ?_
  refine x_iconst (v := (0 : Int32)) dL_arrives_59 (by decide) ?_
  refine xs_iald 3136 (0) dL_arrives_60 sh_49 rfl (by decide) (x_vpin (by decide)) ?_
  exact xs_callS mL_part [.int v2, .int (I 3136 0)] [] 2 _ rfl dL_arrives_61 ml_L_15 qL_part rfl ⟨Nat.le_of_ble_eq_true rfl, Nat.le_of_ble_eq_true rfl⟩ ⟨rfl, rfl⟩ (Nat.le_of_ble_eq_true rfl) (Nat.le_of_ble_eq_true rfl) (K)
theorem bL_arrives_64 {I : Nat → Nat → Int32} {L : Nat → Int64} {Q : Option Value → (Nat → Nat → Int32) → (Nat → Int64) → Prop} {v2 : Int32} {s0 : Int32}  (K : XS mL_arrives 77 [(0, .ref 0), (1, .ref 49), (2, .int v2), (3, .int s0), (4, .int s0), (5, .int (1 : Int32)), (6, .int (0 : Int32)), (7, .int (0 : Int32))] [] I L Q) : XS mL_arrives 64 [(0, .ref 0), (1, .ref 49), (2, .int v2)] [.int s0] I L Q := by
  refine x_istore_n [(0, .ref 0), (1, .ref 49), (2, .int v2), (3, .int s0)] dL_arrives_64 rfl (Nat.le_of_ble_eq_true rfl) rfl ?_
  refine x_iload_n 3 dL_arrives_65 rfl rfl ?_
  refine x_istore [(0, .ref 0), (1, .ref 49), (2, .int v2), (3, .int s0), (4, .int s0)] dL_arrives_66 (Nat.le_of_ble_eq_true rfl) rfl ?_
  refine x_iconst (v := (1 : Int32)) dL_arrives_68 (by decide) ?_
  refine x_istore [(0, .ref 0), (1, .ref 49), (2, .int v2), (3, .int s0), (4, .int s0), (5, .int (1 : Int32))] dL_arrives_69 (Nat.le_of_ble_eq_true rfl) rfl ?_
  refine x_iconst (v := (0 : Int32)) dL_arrives_71 (by decide) ?_
  refine x_istore [(0, .ref 0), (1, .ref 49), (2, .int v2), (3, .int s0), (4, .int s0), (5, .int (1 : Int32)), (6, .int (0 : Int32))] dL_arrives_72 (Nat.le_of_ble_eq_true rfl) rfl ?_
  refine x_iconst (v := (0 : Int32)) dL_arrives_74 (by decide) ?_
  refine x_istore [(0, .ref 0), (1, .ref 49), (2, .int v2), (3, .int s0), (4, .int s0), (5, .int (1 : Int32)), (6, .int (0 : Int32)), (7, .int (0 : Int32))] dL_arrives_75 (Nat.le_of_ble_eq_true rfl) rfl ?_
  exact K
theorem bL_arrives_77 {I : Nat → Nat → Int32} {L : Nat → Int64} {Q : Option Value → (Nat → Nat → Int32) → (Nat → Int64) → Prop} {v2 : Int32} {v3 : Int32} {v4 : Int32} {v5 : Int32} {v6 : Int32} {v7 : Int32}  (K1 : ((3 : Int32) ≤ v7) → XS mL_arrives 167 [(0, .ref 0), (1, .ref 49), (3, .int v3), (4, .int v4), (5, .int v5), (6, .int v6)] [] I L Q) (K2 : (¬ (3 : Int32) ≤ v7) → XS mL_arrives 83 [(0, .ref 0), (1, .ref 49), (2, .int v2), (3, .int v3), (4, .int v4), (5, .int v5), (6, .int v6), (7, .int v7)] [] I L Q) : XS mL_arrives 77 [(0, .ref 0), (1, .ref 49), (2, .int v2), (3, .int v3), (4, .int v4), (5, .int v5), (6, .int v6), (7, .int v7)] [] I L Q := by
  refine x_iload 7 dL_arrives_77 rfl ?_
  refine x_iconst (v := (3 : Int32)) dL_arrives_79 (by decide) ?_
  exact x_icmp_ge 167 dL_arrives_80 (by decide) (fun h => x_sub [0, 1, 3, 4, 5, 6] rfl (K1 h)) (fun h => K2 h)
theorem bL_arrives_83 {I : Nat → Nat → Int32} {L : Nat → Int64} {Q : Option Value → (Nat → Nat → Int32) → (Nat → Int64) → Prop} {v2 : Int32} {v3 : Int32} {v4 : Int32} {v5 : Int32} {v6 : Int32} {v7 : Int32}  (K : XS mL_part 0 [(0, .int (v2 >>> ((((3 : Int32) * v7) + (3 : Int32)) &&& 31))), (1, .int (I 3136 0))] [] I L (fun r I' L' => XS mL_arrives 97 [(0, .ref 0), (1, .ref 49), (2, .int v2), (3, .int v3), (4, .int v4), (5, .int v5), (6, .int v6), (7, .int v7)] (r.toList ++ []) I' L' Q)) : XS mL_arrives 83 [(0, .ref 0), (1, .ref 49), (2, .int v2), (3, .int v3), (4, .int v4), (5, .int v5), (6, .int v6), (7, .int v7)] [] I L Q := by
  refine x_iload_n 2 dL_arrives_83 rfl rfl ?_
  refine x_iconst (v := (3 : Int32)) dL_arrives_84 (by decide) ?_
  refine x_iload 7 dL_arrives_85 rfl ?_
  refine x_imul dL_arrives_87 ?_
  refine x_iconst (v := (3 : Int32)) dL_arrives_88 (by decide) ?_
  refine x_iadd dL_arrives_89 ?_
  refine x_ishr dL_arrives_90 ?_
  refine x_aload_n 1 dL_arrives_91 rfl rfl ?_
  refine x_iconst (v := (0 : Int32)) dL_arrives_92 (by decide) ?_
  refine xs_iald 3136 (0) dL_arrives_93 sh_49 rfl (by decide) (x_vpin (by decide)) ?_
  exact xs_callS mL_part [.int (v2 >>> ((((3 : Int32) * v7) + (3 : Int32)) &&& 31)), .int (I 3136 0)] [] 2 _ rfl dL_arrives_94 ml_L_15 qL_part rfl ⟨Nat.le_of_ble_eq_true rfl, Nat.le_of_ble_eq_true rfl⟩ ⟨rfl, rfl⟩ (Nat.le_of_ble_eq_true rfl) (Nat.le_of_ble_eq_true rfl) (K)
theorem bL_arrives_97 {I : Nat → Nat → Int32} {L : Nat → Int64} {Q : Option Value → (Nat → Nat → Int32) → (Nat → Int64) → Prop} {v2 : Int32} {v3 : Int32} {v4 : Int32} {v5 : Int32} {v6 : Int32} {v7 : Int32} {s0 : Int32}  (K : XS mX9_far 0 [(0, .ref 0), (1, .int v4), (2, .int s0), (3, .int ((v2 >>> (((12 : Int32) + v7) &&& 31)) &&& (1 : Int32)))] [] I L (fun r I' L' => XS mL_arrives 122 [(0, .ref 0), (1, .ref 49), (2, .int v2), (3, .int v3), (4, .int v4), (6, .int v6), (7, .int v7), (8, .int s0), (9, .int ((v2 >>> (((12 : Int32) + v7) &&& 31)) &&& (1 : Int32)))] (r.toList ++ [.int v5]) I' L' Q)) : XS mL_arrives 97 [(0, .ref 0), (1, .ref 49), (2, .int v2), (3, .int v3), (4, .int v4), (5, .int v5), (6, .int v6), (7, .int v7)] [.int s0] I L Q := by
  refine x_istore [(0, .ref 0), (1, .ref 49), (2, .int v2), (3, .int v3), (4, .int v4), (5, .int v5), (6, .int v6), (7, .int v7), (8, .int s0)] dL_arrives_97 (Nat.le_of_ble_eq_true rfl) rfl ?_
  refine x_iload_n 2 dL_arrives_99 rfl rfl ?_
  refine x_bipush (v := (12 : Int32)) dL_arrives_100 (by decide) ?_
  refine x_iload 7 dL_arrives_102 rfl ?_
  refine x_iadd dL_arrives_104 ?_
  refine x_ishr dL_arrives_105 ?_
  refine x_iconst (v := (1 : Int32)) dL_arrives_106 (by decide) ?_
  refine x_iand dL_arrives_107 ?_
  refine x_istore [(0, .ref 0), (1, .ref 49), (2, .int v2), (3, .int v3), (4, .int v4), (5, .int v5), (6, .int v6), (7, .int v7), (8, .int s0), (9, .int ((v2 >>> (((12 : Int32) + v7) &&& 31)) &&& (1 : Int32)))] dL_arrives_108 (Nat.le_of_ble_eq_true rfl) rfl ?_
  refine x_iload 5 dL_arrives_110 rfl ?_
  refine x_aload_n 0 dL_arrives_112 rfl rfl ?_
  refine x_iload 4 dL_arrives_113 rfl ?_
  refine x_iload 8 dL_arrives_115 rfl ?_
  refine x_iload 9 dL_arrives_117 rfl ?_
  refine x_sub [0, 1, 2, 3, 4, 6, 7, 8, 9] rfl ?_
  exact xs_callV mX9_far [.int v4, .int s0, .int ((v2 >>> (((12 : Int32) + v7) &&& 31)) &&& (1 : Int32))] [.int v5] 0 9 3 _ rfl dL_arrives_119 ml_L_88 qX9_far rfl ⟨Nat.le_of_ble_eq_true rfl, Nat.le_of_ble_eq_true rfl⟩ ⟨rfl, rfl⟩ (Nat.le_of_ble_eq_true rfl) sh_0 (by decide) rfl (Nat.le_of_ble_eq_true rfl) (K)
theorem bL_arrives_122 {I : Nat → Nat → Int32} {L : Nat → Int64} {Q : Option Value → (Nat → Nat → Int32) → (Nat → Int64) → Prop} {v2 : Int32} {v3 : Int32} {v4 : Int32} {v6 : Int32} {v7 : Int32} {v8 : Int32} {v9 : Int32} {s0 : Int32} {s1 : Int32}  (K1 : (s1 < 0) → XS mL_arrives 129 [(0, .ref 0), (1, .ref 49), (2, .int v2), (3, .int v3), (4, .int v4), (6, .int v6), (7, .int v7), (8, .int v8), (9, .int v9)] [.int s0] I L Q) (K2 : (¬ s1 < 0) → XS mL_arrives 125 [(0, .ref 0), (1, .ref 49), (2, .int v2), (3, .int v3), (4, .int v4), (6, .int v6), (7, .int v7), (8, .int v8), (9, .int v9)] [.int s0] I L Q) : XS mL_arrives 122 [(0, .ref 0), (1, .ref 49), (2, .int v2), (3, .int v3), (4, .int v4), (6, .int v6), (7, .int v7), (8, .int v8), (9, .int v9)] [.int s1, .int s0] I L Q := by
  exact x_if_lt 129 dL_arrives_122 (by decide) (fun h => K1 h) (fun h => K2 h)
theorem bL_arrives_125 {I : Nat → Nat → Int32} {L : Nat → Int64} {Q : Option Value → (Nat → Nat → Int32) → (Nat → Int64) → Prop} {v2 : Int32} {v3 : Int32} {v4 : Int32} {v6 : Int32} {v7 : Int32} {v8 : Int32} {v9 : Int32} {s0 : Int32}  (K : XS mL_arrives 130 [(0, .ref 0), (1, .ref 49), (2, .int v2), (3, .int v3), (4, .int v4), (6, .int v6), (7, .int v7), (8, .int v8), (9, .int v9)] [.int (1 : Int32), .int s0] I L Q) : XS mL_arrives 125 [(0, .ref 0), (1, .ref 49), (2, .int v2), (3, .int v3), (4, .int v4), (6, .int v6), (7, .int v7), (8, .int v8), (9, .int v9)] [.int s0] I L Q := by
  refine x_iconst (v := (1 : Int32)) dL_arrives_125 (by decide) ?_
  exact x_goto 130 dL_arrives_126 (by decide) (K)
theorem bL_arrives_129 {I : Nat → Nat → Int32} {L : Nat → Int64} {Q : Option Value → (Nat → Nat → Int32) → (Nat → Int64) → Prop} {v2 : Int32} {v3 : Int32} {v4 : Int32} {v6 : Int32} {v7 : Int32} {v8 : Int32} {v9 : Int32} {s0 : Int32}  (K : XS mL_arrives 130 [(0, .ref 0), (1, .ref 49), (2, .int v2), (3, .int v3), (4, .int v4), (6, .int v6), (7, .int v7), (8, .int v8), (9, .int v9)] [.int (0 : Int32), .int s0] I L Q) : XS mL_arrives 129 [(0, .ref 0), (1, .ref 49), (2, .int v2), (3, .int v3), (4, .int v4), (6, .int v6), (7, .int v7), (8, .int v8), (9, .int v9)] [.int s0] I L Q := by
  refine x_iconst (v := (0 : Int32)) dL_arrives_129 (by decide) ?_
  exact K
theorem bL_arrives_130 {I : Nat → Nat → Int32} {L : Nat → Int64} {Q : Option Value → (Nat → Nat → Int32) → (Nat → Int64) → Prop} {v2 : Int32} {v3 : Int32} {v4 : Int32} {v6 : Int32} {v7 : Int32} {v8 : Int32} {v9 : Int32} {s0 : Int32} {s1 : Int32}  (K : XS mX9_far 0 [(0, .ref 0), (1, .int v4), (2, .int v8), (3, .int v9)] [] I L (fun r I' L' => XS mL_arrives 145 [(0, .ref 0), (1, .ref 49), (2, .int v2), (3, .int v3), (5, .int (s0 &&& s1)), (7, .int v7), (8, .int v8), (9, .int v9)] (r.toList ++ [.int v6]) I' L' Q)) : XS mL_arrives 130 [(0, .ref 0), (1, .ref 49), (2, .int v2), (3, .int v3), (4, .int v4), (6, .int v6), (7, .int v7), (8, .int v8), (9, .int v9)] [.int s1, .int s0] I L Q := by
  refine x_iand dL_arrives_130 ?_
  refine x_istore [(0, .ref 0), (1, .ref 49), (2, .int v2), (3, .int v3), (4, .int v4), (5, .int (s0 &&& s1)), (6, .int v6), (7, .int v7), (8, .int v8), (9, .int v9)] dL_arrives_131 (Nat.le_of_ble_eq_true rfl) rfl ?_
  refine x_iload 6 dL_arrives_133 rfl ?_
  refine x_aload_n 0 dL_arrives_135 rfl rfl ?_
  refine x_iload 4 dL_arrives_136 rfl ?_
  refine x_iload 8 dL_arrives_138 rfl ?_
  refine x_iload 9 dL_arrives_140 rfl ?_
  refine x_sub [0, 1, 2, 3, 5, 7, 8, 9] rfl ?_
  exact xs_callV mX9_far [.int v4, .int v8, .int v9] [.int v6] 0 9 3 _ rfl dL_arrives_142 ml_L_88 qX9_far rfl ⟨Nat.le_of_ble_eq_true rfl, Nat.le_of_ble_eq_true rfl⟩ ⟨rfl, rfl⟩ (Nat.le_of_ble_eq_true rfl) sh_0 (by decide) rfl (Nat.le_of_ble_eq_true rfl) (K)
theorem bL_arrives_145 {I : Nat → Nat → Int32} {L : Nat → Int64} {Q : Option Value → (Nat → Nat → Int32) → (Nat → Int64) → Prop} {v2 : Int32} {v3 : Int32} {v5 : Int32} {v7 : Int32} {v8 : Int32} {v9 : Int32} {s0 : Int32} {s1 : Int32}  (K : XS mX9_push 0 [(0, .ref 0), (1, .int v9), (2, .int v8)] [] I L (fun r I' L' => XS mL_arrives 156 [(0, .ref 0), (1, .ref 49), (2, .int v2), (3, .int v3), (5, .int v5), (6, .int (s0 + s1)), (7, .int v7), (8, .int v8)] (r.toList ++ []) I' L' Q)) : XS mL_arrives 145 [(0, .ref 0), (1, .ref 49), (2, .int v2), (3, .int v3), (5, .int v5), (7, .int v7), (8, .int v8), (9, .int v9)] [.int s1, .int s0] I L Q := by
  refine x_iadd dL_arrives_145 ?_
  refine x_istore [(0, .ref 0), (1, .ref 49), (2, .int v2), (3, .int v3), (5, .int v5), (6, .int (s0 + s1)), (7, .int v7), (8, .int v8), (9, .int v9)] dL_arrives_146 (Nat.le_of_ble_eq_true rfl) rfl ?_
  refine x_aload_n 0 dL_arrives_148 rfl rfl ?_
  refine x_iload 8 dL_arrives_149 rfl ?_
  refine x_iload 7 dL_arrives_151 rfl ?_
  refine x_sub [0, 1, 2, 3, 4, 5, 6, 7] rfl ?_
  exact xs_callV mX9_push [.int v9, .int v8] [] 0 9 2 _ rfl dL_arrives_153 ml_L_103 qX9_push rfl ⟨Nat.le_of_ble_eq_true rfl, Nat.le_of_ble_eq_true rfl⟩ ⟨rfl, rfl⟩ (Nat.le_of_ble_eq_true rfl) sh_0 (by decide) rfl (Nat.le_of_ble_eq_true rfl) (K)
theorem bL_arrives_156 {I : Nat → Nat → Int32} {L : Nat → Int64} {Q : Option Value → (Nat → Nat → Int32) → (Nat → Int64) → Prop} {v2 : Int32} {v3 : Int32} {v5 : Int32} {v6 : Int32} {v7 : Int32} {v8 : Int32} {s0 : Int32}  (K : XS mL_arrives 77 [(0, .ref 0), (1, .ref 49), (2, .int v2), (3, .int v3), (4, .int v8), (5, .int v5), (6, .int v6), (7, .int (v7 + (1 : Int32)))] [] I L Q) : XS mL_arrives 156 [(0, .ref 0), (1, .ref 49), (2, .int v2), (3, .int v3), (5, .int v5), (6, .int v6), (7, .int v7), (8, .int v8)] [.int s0] I L Q := by
  refine x_pop dL_arrives_156 rfl ?_
  refine x_iload 7 dL_arrives_157 rfl ?_
  refine x_istore [(0, .ref 0), (1, .ref 49), (2, .int v2), (3, .int v3), (4, .int v8), (5, .int v5), (6, .int v6), (7, .int v7), (8, .int v8)] dL_arrives_159 (Nat.le_of_ble_eq_true rfl) rfl ?_
  refine x_iinc 7 (v7 + (1 : Int32)) [(0, .ref 0), (1, .ref 49), (2, .int v2), (3, .int v3), (4, .int v8), (5, .int v5), (6, .int v6), (7, .int (v7 + (1 : Int32))), (8, .int v8)] dL_arrives_161 rfl rfl (Nat.le_of_ble_eq_true rfl) rfl ?_
  exact x_goto 77 dL_arrives_164 (by decide) (x_sub [0, 1, 2, 3, 4, 5, 6, 7] rfl (K))
theorem bL_arrives_167 {I : Nat → Nat → Int32} {L : Nat → Int64} {Q : Option Value → (Nat → Nat → Int32) → (Nat → Int64) → Prop} {v3 : Int32} {v4 : Int32} {v5 : Int32} {v6 : Int32}  (K : XS mX9_send 0 [(0, .ref 0), (1, .int v3)] [] I L (fun r I' L' => XS mL_arrives 172 [(0, .ref 0), (1, .ref 49), (4, .int v4), (5, .int v5), (6, .int v6)] (r.toList ++ []) I' L' Q)) : XS mL_arrives 167 [(0, .ref 0), (1, .ref 49), (3, .int v3), (4, .int v4), (5, .int v5), (6, .int v6)] [] I L Q := by
  refine x_aload_n 0 dL_arrives_167 rfl rfl ?_
  refine x_iload_n 2 dL_arrives_168 rfl rfl ?_
  refine x_sub [0, 1, 3, 4, 5] rfl ?_
  exact xs_callV mX9_send [.int v3] [] 0 9 1 _ rfl dL_arrives_169 ml_L_116 qX9_send rfl ⟨Nat.le_of_ble_eq_true rfl, Nat.le_of_ble_eq_true rfl⟩ ⟨rfl, rfl⟩ (Nat.le_of_ble_eq_true rfl) sh_0 (by decide) rfl (Nat.le_of_ble_eq_true rfl) (K)
theorem bL_arrives_172 {I : Nat → Nat → Int32} {L : Nat → Int64} {Q : Option Value → (Nat → Nat → Int32) → (Nat → Int64) → Prop} {v4 : Int32} {v5 : Int32} {v6 : Int32} {s0 : Int32}  (K : XS mL_arrives 177 [(0, .ref 0), (1, .ref 49), (4, .int v4), (5, .int v5), (6, .int v6), (7, .int s0), (8, .int (0 : Int32))] [] I L Q) : XS mL_arrives 172 [(0, .ref 0), (1, .ref 49), (4, .int v4), (5, .int v5), (6, .int v6)] [.int s0] I L Q := by
  refine x_istore [(0, .ref 0), (1, .ref 49), (4, .int v4), (5, .int v5), (6, .int v6), (7, .int s0)] dL_arrives_172 (Nat.le_of_ble_eq_true rfl) rfl ?_
  refine x_iconst (v := (0 : Int32)) dL_arrives_174 (by decide) ?_
  refine x_istore [(0, .ref 0), (1, .ref 49), (4, .int v4), (5, .int v5), (6, .int v6), (7, .int s0), (8, .int (0 : Int32))] dL_arrives_175 (Nat.le_of_ble_eq_true rfl) rfl ?_
  exact K
theorem bL_arrives_177 {I : Nat → Nat → Int32} {L : Nat → Int64} {Q : Option Value → (Nat → Nat → Int32) → (Nat → Int64) → Prop} {v4 : Int32} {v5 : Int32} {v6 : Int32} {v7 : Int32} {v8 : Int32}  (K1 : ((I 3136 0) ≤ v8) → XS mL_arrives 212 [(0, .ref 0), (4, .int v4), (5, .int v5), (6, .int v6), (7, .int v7)] [] I L Q) (K2 : (¬ (I 3136 0) ≤ v8) → XS mL_arrives 185 [(0, .ref 0), (1, .ref 49), (4, .int v4), (5, .int v5), (6, .int v6), (7, .int v7), (8, .int v8)] [] I L Q) : XS mL_arrives 177 [(0, .ref 0), (1, .ref 49), (4, .int v4), (5, .int v5), (6, .int v6), (7, .int v7), (8, .int v8)] [] I L Q := by
  refine x_iload 6 dL_arrives_177 rfl ?_
  refine x_aload_n 1 dL_arrives_179 rfl rfl ?_
  refine x_iconst (v := (0 : Int32)) dL_arrives_180 (by decide) ?_
  refine xs_iald 3136 (0) dL_arrives_181 sh_49 rfl (by decide) (x_vpin (by decide)) ?_
  exact x_icmp_ge 212 dL_arrives_182 (by decide) (fun h => x_sub [0, 2, 3, 4, 5] rfl (K1 h)) (fun h => K2 h)
theorem bL_arrives_185 {I : Nat → Nat → Int32} {L : Nat → Int64} {Q : Option Value → (Nat → Nat → Int32) → (Nat → Int64) → Prop} {v4 : Int32} {v5 : Int32} {v6 : Int32} {v7 : Int32} {v8 : Int32}  (K : XS mX9_rings 0 [(0, .ref 0), (1, .int v8)] [] I L (fun r I' L' => XS mL_arrives 191 [(0, .ref 0), (1, .ref 49), (4, .int v4), (5, .int v5), (6, .int v6), (7, .int v7), (8, .int v8)] (r.toList ++ []) I' L' Q)) : XS mL_arrives 185 [(0, .ref 0), (1, .ref 49), (4, .int v4), (5, .int v5), (6, .int v6), (7, .int v7), (8, .int v8)] [] I L Q := by
  refine x_aload_n 0 dL_arrives_185 rfl rfl ?_
  refine x_iload 6 dL_arrives_186 rfl ?_
  exact xs_callV mX9_rings [.int v8] [] 0 9 1 _ rfl dL_arrives_188 ml_L_94 qX9_rings rfl ⟨Nat.le_of_ble_eq_true rfl, Nat.le_of_ble_eq_true rfl⟩ ⟨rfl, rfl⟩ (Nat.le_of_ble_eq_true rfl) sh_0 (by decide) rfl (Nat.le_of_ble_eq_true rfl) (K)
theorem bL_arrives_191 {I : Nat → Nat → Int32} {L : Nat → Int64} {Q : Option Value → (Nat → Nat → Int32) → (Nat → Int64) → Prop} {v4 : Int32} {v5 : Int32} {v6 : Int32} {v7 : Int32} {v8 : Int32} {s0 : Int32}  (K1 : (¬ s0 = 0) → XS mL_arrives 204 [] [] I L Q) (K2 : (s0 = 0) → XS mL_arrives 194 [(0, .ref 0), (1, .ref 49), (4, .int v4), (5, .int v5), (6, .int v6), (7, .int v7), (8, .int v8)] [] I L Q) : XS mL_arrives 191 [(0, .ref 0), (1, .ref 49), (4, .int v4), (5, .int v5), (6, .int v6), (7, .int v7), (8, .int v8)] [.int s0] I L Q := by
  exact x_if_ne 204 dL_arrives_191 (by decide) (fun h => x_sub [] rfl (K1 h)) (fun h => K2 h)
theorem bL_arrives_194 {I : Nat → Nat → Int32} {L : Nat → Int64} {Q : Option Value → (Nat → Nat → Int32) → (Nat → Int64) → Prop} {v4 : Int32} {v5 : Int32} {v6 : Int32} {v7 : Int32} {v8 : Int32}  (K : XS mX9_safe 0 [(0, .ref 0), (1, .int v8)] [] I L (fun r I' L' => XS mL_arrives 200 [(0, .ref 0), (1, .ref 49), (4, .int v4), (5, .int v5), (6, .int v6), (7, .int v7), (8, .int v8)] (r.toList ++ []) I' L' Q)) : XS mL_arrives 194 [(0, .ref 0), (1, .ref 49), (4, .int v4), (5, .int v5), (6, .int v6), (7, .int v7), (8, .int v8)] [] I L Q := by
  refine x_aload_n 0 dL_arrives_194 rfl rfl ?_
  refine x_iload 6 dL_arrives_195 rfl ?_
  exact xs_callV mX9_safe [.int v8] [] 0 9 1 _ rfl dL_arrives_197 ml_L_97 qX9_safe rfl ⟨Nat.le_of_ble_eq_true rfl, Nat.le_of_ble_eq_true rfl⟩ ⟨rfl, rfl⟩ (Nat.le_of_ble_eq_true rfl) sh_0 (by decide) rfl (Nat.le_of_ble_eq_true rfl) (K)
theorem bL_arrives_200 {I : Nat → Nat → Int32} {L : Nat → Int64} {Q : Option Value → (Nat → Nat → Int32) → (Nat → Int64) → Prop} {v4 : Int32} {v5 : Int32} {v6 : Int32} {v7 : Int32} {v8 : Int32} {s0 : Int32}  (K1 : (s0 = (1 : Int32)) → XS mL_arrives 206 [(0, .ref 0), (1, .ref 49), (4, .int v4), (5, .int v5), (6, .int v6), (7, .int v7), (8, .int v8)] [] I L Q) (K2 : (¬ s0 = (1 : Int32)) → XS mL_arrives 204 [] [] I L Q) : XS mL_arrives 200 [(0, .ref 0), (1, .ref 49), (4, .int v4), (5, .int v5), (6, .int v6), (7, .int v7), (8, .int v8)] [.int s0] I L Q := by
  refine x_iconst (v := (1 : Int32)) dL_arrives_200 (by decide) ?_
  exact x_icmp_eq 206 dL_arrives_201 (by decide) (fun h => K1 h) (fun h => x_sub [] rfl (K2 h))
theorem bL_arrives_204 {I : Nat → Nat → Int32} {L : Nat → Int64} {Q : Option Value → (Nat → Nat → Int32) → (Nat → Int64) → Prop}   (K : Q (some (.int (0 : Int32))) I L) : XS mL_arrives 204 [] [] I L Q := by
  refine x_iconst (v := (0 : Int32)) dL_arrives_204 (by decide) ?_
  exact xs_iret dL_arrives_205 rfl (x_nar _ (Or.inl rfl)) K
theorem bL_arrives_206 {I : Nat → Nat → Int32} {L : Nat → Int64} {Q : Option Value → (Nat → Nat → Int32) → (Nat → Int64) → Prop} {v4 : Int32} {v5 : Int32} {v6 : Int32} {v7 : Int32} {v8 : Int32}  (K : XS mL_arrives 177 [(0, .ref 0), (1, .ref 49), (4, .int v4), (5, .int v5), (6, .int v6), (7, .int v7), (8, .int (v8 + (1 : Int32)))] [] I L Q) : XS mL_arrives 206 [(0, .ref 0), (1, .ref 49), (4, .int v4), (5, .int v5), (6, .int v6), (7, .int v7), (8, .int v8)] [] I L Q := by
  refine x_iinc 6 (v8 + (1 : Int32)) [(0, .ref 0), (1, .ref 49), (4, .int v4), (5, .int v5), (6, .int v6), (7, .int v7), (8, .int (v8 + (1 : Int32)))] dL_arrives_206 rfl rfl (Nat.le_of_ble_eq_true rfl) rfl ?_
  exact x_goto 177 dL_arrives_209 (by decide) (K)
theorem bL_arrives_212 {I : Nat → Nat → Int32} {L : Nat → Int64} {Q : Option Value → (Nat → Nat → Int32) → (Nat → Int64) → Prop} {v4 : Int32} {v5 : Int32} {v6 : Int32} {v7 : Int32}  (K1 : (v5 = 0) → XS mL_arrives 249 [(7, .int v7)] [] I L Q) (K2 : (¬ v5 = 0) → XS mL_arrives 217 [(0, .ref 0), (4, .int v4), (6, .int v6), (7, .int v7)] [] I L Q) : XS mL_arrives 212 [(0, .ref 0), (4, .int v4), (5, .int v5), (6, .int v6), (7, .int v7)] [] I L Q := by
  refine x_iload 2 dL_arrives_212 rfl ?_
  exact x_if_eq 249 dL_arrives_214 (by decide) (fun h => x_sub [4] rfl (K1 h)) (fun h => x_sub [0, 1, 3, 4] rfl (K2 h))
theorem bL_arrives_217 {I : Nat → Nat → Int32} {L : Nat → Int64} {Q : Option Value → (Nat → Nat → Int32) → (Nat → Int64) → Prop} {v4 : Int32} {v6 : Int32} {v7 : Int32}  (K1 : (¬ v7 = v4) → XS mL_arrives 234 [(7, .int v7)] [] I L Q) (K2 : (v7 = v4) → XS mL_arrives 224 [(0, .ref 0), (6, .int v6), (7, .int v7)] [] I L Q) : XS mL_arrives 217 [(0, .ref 0), (4, .int v4), (6, .int v6), (7, .int v7)] [] I L Q := by
  refine x_iload 3 dL_arrives_217 rfl ?_
  refine x_iload 1 dL_arrives_219 rfl ?_
  exact x_icmp_ne 234 dL_arrives_221 (by decide) (fun h => x_sub [3] rfl (K1 h)) (fun h => x_sub [0, 2, 3] rfl (K2 h))
theorem bL_arrives_224 {I : Nat → Nat → Int32} {L : Nat → Int64} {Q : Option Value → (Nat → Nat → Int32) → (Nat → Int64) → Prop} {v6 : Int32} {v7 : Int32}  (K : XS mX9_way 0 [(0, .ref 0), (1, .int (-1 : Int32))] [] I L (fun r I' L' => XS mL_arrives 229 [(6, .int v6), (7, .int v7)] (r.toList ++ []) I' L' Q)) : XS mL_arrives 224 [(0, .ref 0), (6, .int v6), (7, .int v7)] [] I L Q := by
  refine x_aload_n 0 dL_arrives_224 rfl rfl ?_
  refine x_iconst (v := (-1 : Int32)) dL_arrives_225 (by decide) ?_
  refine x_sub [1, 2] rfl ?_
  exact xs_callV mX9_way [.int (-1 : Int32)] [] 0 9 1 _ rfl dL_arrives_226 ml_L_119 qX9_way rfl ⟨Nat.le_of_ble_eq_true rfl, Nat.le_of_ble_eq_true rfl⟩ ⟨rfl, rfl⟩ (Nat.le_of_ble_eq_true rfl) sh_0 (by decide) rfl (Nat.le_of_ble_eq_true rfl) (K)
theorem bL_arrives_229 {I : Nat → Nat → Int32} {L : Nat → Int64} {Q : Option Value → (Nat → Nat → Int32) → (Nat → Int64) → Prop} {v6 : Int32} {v7 : Int32} {s0 : Int32}  (K1 : (s0 ≤ v6) → XS mL_arrives 241 [] [] I L Q) (K2 : (¬ s0 ≤ v6) → XS mL_arrives 234 [(7, .int v7)] [] I L Q) : XS mL_arrives 229 [(6, .int v6), (7, .int v7)] [.int s0] I L Q := by
  refine x_iload 0 dL_arrives_229 rfl ?_
  exact x_icmp_le 241 dL_arrives_231 (by decide) (fun h => x_sub [] rfl (K1 h)) (fun h => x_sub [1] rfl (K2 h))
theorem bL_arrives_234 {I : Nat → Nat → Int32} {L : Nat → Int64} {Q : Option Value → (Nat → Nat → Int32) → (Nat → Int64) → Prop} {v7 : Int32}  (K1 : (¬ v7 = (-14 : Int32)) → XS mL_arrives 245 [] [] I L Q) (K2 : (v7 = (-14 : Int32)) → XS mL_arrives 241 [] [] I L Q) : XS mL_arrives 234 [(7, .int v7)] [] I L Q := by
  refine x_iload 0 dL_arrives_234 rfl ?_
  refine x_bipush (v := (-14 : Int32)) dL_arrives_236 (by decide) ?_
  exact x_icmp_ne 245 dL_arrives_238 (by decide) (fun h => x_sub [] rfl (K1 h)) (fun h => x_sub [] rfl (K2 h))
theorem bL_arrives_241 {I : Nat → Nat → Int32} {L : Nat → Int64} {Q : Option Value → (Nat → Nat → Int32) → (Nat → Int64) → Prop}   (K : XS mL_arrives 261 [] [.int (1 : Int32)] I L Q) : XS mL_arrives 241 [] [] I L Q := by
  refine x_iconst (v := (1 : Int32)) dL_arrives_241 (by decide) ?_
  exact x_goto 261 dL_arrives_242 (by decide) (K)
theorem bL_arrives_245 {I : Nat → Nat → Int32} {L : Nat → Int64} {Q : Option Value → (Nat → Nat → Int32) → (Nat → Int64) → Prop}   (K : XS mL_arrives 261 [] [.int (0 : Int32)] I L Q) : XS mL_arrives 245 [] [] I L Q := by
  refine x_iconst (v := (0 : Int32)) dL_arrives_245 (by decide) ?_
  exact x_goto 261 dL_arrives_246 (by decide) (K)
theorem bL_arrives_249 {I : Nat → Nat → Int32} {L : Nat → Int64} {Q : Option Value → (Nat → Nat → Int32) → (Nat → Int64) → Prop} {v7 : Int32}  (K1 : (¬ v7 = (-11 : Int32)) → XS mL_arrives 260 [] [] I L Q) (K2 : (v7 = (-11 : Int32)) → XS mL_arrives 256 [] [] I L Q) : XS mL_arrives 249 [(7, .int v7)] [] I L Q := by
  refine x_iload 0 dL_arrives_249 rfl ?_
  refine x_bipush (v := (-11 : Int32)) dL_arrives_251 (by decide) ?_
  exact x_icmp_ne 260 dL_arrives_253 (by decide) (fun h => x_sub [] rfl (K1 h)) (fun h => x_sub [] rfl (K2 h))
theorem bL_arrives_256 {I : Nat → Nat → Int32} {L : Nat → Int64} {Q : Option Value → (Nat → Nat → Int32) → (Nat → Int64) → Prop}   (K : XS mL_arrives 261 [] [.int (1 : Int32)] I L Q) : XS mL_arrives 256 [] [] I L Q := by
  refine x_iconst (v := (1 : Int32)) dL_arrives_256 (by decide) ?_
  exact x_goto 261 dL_arrives_257 (by decide) (K)
theorem bL_arrives_260 {I : Nat → Nat → Int32} {L : Nat → Int64} {Q : Option Value → (Nat → Nat → Int32) → (Nat → Int64) → Prop}   (K : XS mL_arrives 261 [] [.int (0 : Int32)] I L Q) : XS mL_arrives 260 [] [] I L Q := by
  refine x_iconst (v := (0 : Int32)) dL_arrives_260 (by decide) ?_
  exact K
theorem bL_arrives_261 {I : Nat → Nat → Int32} {L : Nat → Int64} {Q : Option Value → (Nat → Nat → Int32) → (Nat → Int64) → Prop} {s0 : Int32} (hz1 : s0 = 0 ∨ s0 = 1) (K : Q (some (.int s0)) I L) : XS mL_arrives 261 [] [.int s0] I L Q := by
  exact xs_iret dL_arrives_261 rfl (x_nar _ hz1) K
theorem bL_law_13 {I : Nat → Nat → Int32} {L : Nat → Int64} {Q : Option Value → (Nat → Nat → Int32) → (Nat → Int64) → Prop} {Ln : Nat} {xs : Nat → Int32}   (K : XS mX9_undo 0 [(0, .ref 0)] [] I L (fun r I' L' => XT (50, 1188) Ln xs mL_law 17 [(0, .ref 1000020), (1, .ref 0), (2, .ref 49)] (r.toList ++ []) I' L' Q)) : XT (50, 1188) Ln xs mL_law 13 [(0, .ref 1000020), (1, .ref 0), (2, .ref 49)] [] I L Q := by
  refine x_aload_n 1 dL_law_13 rfl rfl ?_
  exact xt_callV mX9_undo [] [] 0 9 0 _ rfl dL_law_14 ml_L_126 qX9_undo rfl ⟨Nat.le_of_ble_eq_true rfl, Nat.le_of_ble_eq_true rfl⟩ ⟨Nat.le_of_ble_eq_true rfl, Nat.le_of_ble_eq_true rfl⟩ ⟨rfl, rfl⟩ (Nat.le_of_ble_eq_true rfl) sh_0 (by decide) rfl (Nat.le_of_ble_eq_true rfl) (K)
theorem bL_law_17 {I : Nat → Nat → Int32} {L : Nat → Int64} {Q : Option Value → (Nat → Nat → Int32) → (Nat → Int64) → Prop} {Ln : Nat} {xs : Nat → Int32} {s0 : Int32}  (K1 : (¬ s0 = (-4 : Int32)) → XT (50, 1188) Ln xs mL_law 62 [] [] I L Q) (K2 : (s0 = (-4 : Int32)) → XT (50, 1188) Ln xs mL_law 22 [(0, .ref 1000020), (1, .ref 0), (2, .ref 49)] [] I L Q) : XT (50, 1188) Ln xs mL_law 17 [(0, .ref 1000020), (1, .ref 0), (2, .ref 49)] [.int s0] I L Q := by
  refine x_bipush (v := (-4 : Int32)) dL_law_17 (by decide) ?_
  exact x_icmp_ne 62 dL_law_19 (by decide) (fun h => x_sub [] rfl (K1 h)) (fun h => K2 h)
theorem bL_law_22 {I : Nat → Nat → Int32} {L : Nat → Int64} {Q : Option Value → (Nat → Nat → Int32) → (Nat → Int64) → Prop} {Ln : Nat} {xs : Nat → Int32}   (K : XS mX9_way 0 [(0, .ref 0), (1, .int (0 : Int32))] [] I L (fun r I' L' => XT (50, 1188) Ln xs mL_law 27 [(0, .ref 1000020), (1, .ref 0), (2, .ref 49)] (r.toList ++ []) I' L' Q)) : XT (50, 1188) Ln xs mL_law 22 [(0, .ref 1000020), (1, .ref 0), (2, .ref 49)] [] I L Q := by
  refine x_aload_n 1 dL_law_22 rfl rfl ?_
  refine x_iconst (v := (0 : Int32)) dL_law_23 (by decide) ?_
  exact xt_callV mX9_way [.int (0 : Int32)] [] 0 9 1 _ rfl dL_law_24 ml_L_119 qX9_way rfl ⟨Nat.le_of_ble_eq_true rfl, Nat.le_of_ble_eq_true rfl⟩ ⟨Nat.le_of_ble_eq_true rfl, Nat.le_of_ble_eq_true rfl⟩ ⟨rfl, rfl⟩ (Nat.le_of_ble_eq_true rfl) sh_0 (by decide) rfl (Nat.le_of_ble_eq_true rfl) (K)
theorem bL_law_27 {I : Nat → Nat → Int32} {L : Nat → Int64} {Q : Option Value → (Nat → Nat → Int32) → (Nat → Int64) → Prop} {Ln : Nat} {xs : Nat → Int32} {s0 : Int32}  (K1 : (¬ s0 = (-1 : Int32)) → XT (50, 1188) Ln xs mL_law 62 [] [] I L Q) (K2 : (s0 = (-1 : Int32)) → XT (50, 1188) Ln xs mL_law 31 [(0, .ref 1000020), (1, .ref 0), (2, .ref 49)] [] I L Q) : XT (50, 1188) Ln xs mL_law 27 [(0, .ref 1000020), (1, .ref 0), (2, .ref 49)] [.int s0] I L Q := by
  refine x_iconst (v := (-1 : Int32)) dL_law_27 (by decide) ?_
  exact x_icmp_ne 62 dL_law_28 (by decide) (fun h => x_sub [] rfl (K1 h)) (fun h => K2 h)
theorem bL_law_31 {I : Nat → Nat → Int32} {L : Nat → Int64} {Q : Option Value → (Nat → Nat → Int32) → (Nat → Int64) → Prop} {Ln : Nat} {xs : Nat → Int32}   (K : XS mL_faults 0 [(0, .ref 0)] [] I L (fun r I' L' => XT (50, 1188) Ln xs mL_law 35 [(0, .ref 1000020), (1, .ref 0), (2, .ref 49)] (r.toList ++ []) I' L' Q)) : XT (50, 1188) Ln xs mL_law 31 [(0, .ref 1000020), (1, .ref 0), (2, .ref 49)] [] I L Q := by
  refine x_aload_n 1 dL_law_31 rfl rfl ?_
  exact xt_callS mL_faults [.ref 0] [] 1 _ rfl dL_law_32 ml_L_129 qL_faults rfl ⟨Nat.le_of_ble_eq_true rfl, Nat.le_of_ble_eq_true rfl⟩ ⟨Nat.le_of_ble_eq_true rfl, Nat.le_of_ble_eq_true rfl⟩ ⟨rfl, rfl⟩ (Nat.le_of_ble_eq_true rfl) (Nat.le_of_ble_eq_true rfl) (K)
theorem bL_law_35 {I : Nat → Nat → Int32} {L : Nat → Int64} {Q : Option Value → (Nat → Nat → Int32) → (Nat → Int64) → Prop} {Ln : Nat} {xs : Nat → Int32} {s0 : Int32}  (K1 : (s0 = 0) → XT (50, 1188) Ln xs mL_law 62 [] [] I L Q) (K2 : (¬ s0 = 0) → XT (50, 1188) Ln xs mL_law 38 [(0, .ref 1000020), (1, .ref 0), (2, .ref 49)] [] I L Q) : XT (50, 1188) Ln xs mL_law 35 [(0, .ref 1000020), (1, .ref 0), (2, .ref 49)] [.int s0] I L Q := by
  exact x_if_eq 62 dL_law_35 (by decide) (fun h => x_sub [] rfl (K1 h)) (fun h => K2 h)
theorem bL_law_38 {I : Nat → Nat → Int32} {L : Nat → Int64} {Q : Option Value → (Nat → Nat → Int32) → (Nat → Int64) → Prop} {Ln : Nat} {xs : Nat → Int32}   (K : XS mL_refused 0 [(0, .ref 0)] [] I L (fun r I' L' => XT (50, 1188) Ln xs mL_law 42 [(0, .ref 1000020), (1, .ref 0), (2, .ref 49)] (r.toList ++ []) I' L' Q)) : XT (50, 1188) Ln xs mL_law 38 [(0, .ref 1000020), (1, .ref 0), (2, .ref 49)] [] I L Q := by
  refine x_aload_n 1 dL_law_38 rfl rfl ?_
  exact xt_callS mL_refused [.ref 0] [] 1 _ rfl dL_law_39 ml_L_133 qL_refused rfl ⟨Nat.le_of_ble_eq_true rfl, Nat.le_of_ble_eq_true rfl⟩ ⟨Nat.le_of_ble_eq_true rfl, Nat.le_of_ble_eq_true rfl⟩ ⟨rfl, rfl⟩ (Nat.le_of_ble_eq_true rfl) (Nat.le_of_ble_eq_true rfl) (K)
theorem bL_law_42 {I : Nat → Nat → Int32} {L : Nat → Int64} {Q : Option Value → (Nat → Nat → Int32) → (Nat → Int64) → Prop} {Ln : Nat} {xs : Nat → Int32} {s0 : Int32}  (K1 : (s0 = 0) → XT (50, 1188) Ln xs mL_law 62 [] [] I L Q) (K2 : (¬ s0 = 0) → XT (50, 1188) Ln xs mL_law 45 [(0, .ref 1000020), (1, .ref 0), (2, .ref 49)] [] I L Q) : XT (50, 1188) Ln xs mL_law 42 [(0, .ref 1000020), (1, .ref 0), (2, .ref 49)] [.int s0] I L Q := by
  exact x_if_eq 62 dL_law_42 (by decide) (fun h => x_sub [] rfl (K1 h)) (fun h => K2 h)
theorem bL_law_45 {I : Nat → Nat → Int32} {L : Nat → Int64} {Q : Option Value → (Nat → Nat → Int32) → (Nat → Int64) → Prop} {Ln : Nat} {xs : Nat → Int32}   (K : XS mL_most 0 [(0, .ref 0)] [] I L (fun r I' L' => XT (50, 1188) Ln xs mL_law 49 [(0, .ref 1000020), (1, .ref 0), (2, .ref 49)] (r.toList ++ []) I' L' Q)) : XT (50, 1188) Ln xs mL_law 45 [(0, .ref 1000020), (1, .ref 0), (2, .ref 49)] [] I L Q := by
  refine x_aload_n 1 dL_law_45 rfl rfl ?_
  exact xt_callS mL_most [.ref 0] [] 1 _ rfl dL_law_46 ml_L_136 qL_most rfl ⟨Nat.le_of_ble_eq_true rfl, Nat.le_of_ble_eq_true rfl⟩ ⟨Nat.le_of_ble_eq_true rfl, Nat.le_of_ble_eq_true rfl⟩ ⟨rfl, rfl⟩ (Nat.le_of_ble_eq_true rfl) (Nat.le_of_ble_eq_true rfl) (K)
theorem bL_law_49 {I : Nat → Nat → Int32} {L : Nat → Int64} {Q : Option Value → (Nat → Nat → Int32) → (Nat → Int64) → Prop} {Ln : Nat} {xs : Nat → Int32} {s0 : Int32}  (K1 : (s0 = 0) → XT (50, 1188) Ln xs mL_law 62 [] [] I L Q) (K2 : (¬ s0 = 0) → XT (50, 1188) Ln xs mL_law 52 [(0, .ref 1000020), (1, .ref 0), (2, .ref 49)] [] I L Q) : XT (50, 1188) Ln xs mL_law 49 [(0, .ref 1000020), (1, .ref 0), (2, .ref 49)] [.int s0] I L Q := by
  exact x_if_eq 62 dL_law_49 (by decide) (fun h => x_sub [] rfl (K1 h)) (fun h => K2 h)
theorem bL_law_52 {I : Nat → Nat → Int32} {L : Nat → Int64} {Q : Option Value → (Nat → Nat → Int32) → (Nat → Int64) → Prop} {Ln : Nat} {xs : Nat → Int32}   (K : XT (0, 0) Ln xs mL_nets 0 [(0, .ref 0), (1, .ref 49), (2, .ref 1000020), (3, .int (0 : Int32))] [] I L (fun r I' L' => XT (50, 1188) Ln xs mL_law 59 [(0, .ref 1000020), (1, .ref 0), (2, .ref 49)] (r.toList ++ []) I' L' Q)) : XT (50, 1188) Ln xs mL_law 52 [(0, .ref 1000020), (1, .ref 0), (2, .ref 49)] [] I L Q := by
  refine x_aload_n 1 dL_law_52 rfl rfl ?_
  refine x_aload_n 2 dL_law_53 rfl rfl ?_
  refine x_aload_n 0 dL_law_54 rfl rfl ?_
  refine x_iconst (v := (0 : Int32)) dL_law_55 (by decide) ?_
  exact xt_callSS mL_nets [.ref 0, .ref 49, .ref 1000020, .int (0 : Int32)] [] 4 _ rfl dL_law_56 ml_L_139 qL_nets rfl ⟨Nat.le_of_ble_eq_true rfl, Nat.le_of_ble_eq_true rfl⟩ ⟨Nat.le_of_ble_eq_true rfl, Nat.le_of_ble_eq_true rfl⟩ ⟨rfl, rfl⟩ (Nat.le_of_ble_eq_true rfl) (Nat.le_of_ble_eq_true rfl) (K)
theorem bL_law_59 {I : Nat → Nat → Int32} {L : Nat → Int64} {Q : Option Value → (Nat → Nat → Int32) → (Nat → Int64) → Prop} {Ln : Nat} {xs : Nat → Int32} {s0 : Int32}  (K1 : (¬ s0 = 0) → XT (50, 1188) Ln xs mL_law 64 [(0, .ref 1000020), (1, .ref 0), (2, .ref 49)] [] I L Q) (K2 : (s0 = 0) → XT (50, 1188) Ln xs mL_law 62 [] [] I L Q) : XT (50, 1188) Ln xs mL_law 59 [(0, .ref 1000020), (1, .ref 0), (2, .ref 49)] [.int s0] I L Q := by
  exact x_if_ne 64 dL_law_59 (by decide) (fun h => K1 h) (fun h => x_sub [] rfl (K2 h))
theorem bL_law_62 {I : Nat → Nat → Int32} {L : Nat → Int64} {Q : Option Value → (Nat → Nat → Int32) → (Nat → Int64) → Prop} {Ln : Nat} {xs : Nat → Int32}   (K : Q (some (.int (0 : Int32))) I L) : XT (50, 1188) Ln xs mL_law 62 [] [] I L Q := by
  refine x_iconst (v := (0 : Int32)) dL_law_62 (by decide) ?_
  exact xt_iret dL_law_63 rfl (x_nar _ (Or.inl rfl)) K
theorem bL_law_64 {I : Nat → Nat → Int32} {L : Nat → Int64} {Q : Option Value → (Nat → Nat → Int32) → (Nat → Int64) → Prop} {Ln : Nat} {xs : Nat → Int32}   (K : XT (50, 1188) Ln xs mL_law 69 [(0, .ref 1000020), (1, .ref 0), (2, .ref 49), (3, .int (0 : Int32)), (4, .int (0 : Int32))] [] I L Q) : XT (50, 1188) Ln xs mL_law 64 [(0, .ref 1000020), (1, .ref 0), (2, .ref 49)] [] I L Q := by
  refine x_iconst (v := (0 : Int32)) dL_law_64 (by decide) ?_
  refine x_istore_n [(0, .ref 1000020), (1, .ref 0), (2, .ref 49), (3, .int (0 : Int32))] dL_law_65 rfl (Nat.le_of_ble_eq_true rfl) rfl ?_
  refine x_iconst (v := (0 : Int32)) dL_law_66 (by decide) ?_
  refine x_istore [(0, .ref 1000020), (1, .ref 0), (2, .ref 49), (3, .int (0 : Int32)), (4, .int (0 : Int32))] dL_law_67 (Nat.le_of_ble_eq_true rfl) rfl ?_
  exact K
theorem bL_law_69 {I : Nat → Nat → Int32} {L : Nat → Int64} {Q : Option Value → (Nat → Nat → Int32) → (Nat → Int64) → Prop} {Ln : Nat} {xs : Nat → Int32} {v3 : Int32} {v4 : Int32}  (K1 : ((14 : Int32) ≤ v4) → XT (50, 1188) Ln xs mL_law 490 [(0, .ref 1000020), (1, .ref 0), (2, .ref 49)] [] I L Q) (K2 : (¬ (14 : Int32) ≤ v4) → XT (50, 1188) Ln xs mL_law 76 [(0, .ref 1000020), (1, .ref 0), (2, .ref 49), (3, .int v3), (4, .int v4)] [] I L Q) : XT (50, 1188) Ln xs mL_law 69 [(0, .ref 1000020), (1, .ref 0), (2, .ref 49), (3, .int v3), (4, .int v4)] [] I L Q := by
  refine x_iload 4 dL_law_69 rfl ?_
  refine x_bipush (v := (14 : Int32)) dL_law_71 (by decide) ?_
  exact x_icmp_ge 490 dL_law_73 (by decide) (fun h => x_sub [0, 1, 2] rfl (K1 h)) (fun h => K2 h)
theorem bL_law_76 {I : Nat → Nat → Int32} {L : Nat → Int64} {Q : Option Value → (Nat → Nat → Int32) → (Nat → Int64) → Prop} {Ln : Nat} {xs : Nat → Int32} {v3 : Int32} {v4 : Int32}  (K : XT (0, 0) Ln xs mL_cell 0 [(0, .ref 1000020), (1, .int ((16 : Int32) + v4))] [] I L (fun r I' L' => XT (50, 1188) Ln xs mL_law 85 [(0, .ref 1000020), (1, .ref 0), (2, .ref 49), (3, .int v3), (4, .int v4)] (r.toList ++ []) I' L' Q)) : XT (50, 1188) Ln xs mL_law 76 [(0, .ref 1000020), (1, .ref 0), (2, .ref 49), (3, .int v3), (4, .int v4)] [] I L Q := by
  refine x_aload_n 0 dL_law_76 rfl rfl ?_
  refine x_bipush (v := (16 : Int32)) dL_law_77 (by decide) ?_
  refine x_iload 4 dL_law_79 rfl ?_
  refine x_iadd dL_law_81 ?_
  exact xt_callSS mL_cell [.ref 1000020, .int ((16 : Int32) + v4)] [] 2 _ rfl dL_law_82 ml_L_9 qL_cell rfl ⟨Nat.le_of_ble_eq_true rfl, Nat.le_of_ble_eq_true rfl⟩ ⟨Nat.le_of_ble_eq_true rfl, Nat.le_of_ble_eq_true rfl⟩ ⟨rfl, rfl⟩ (Nat.le_of_ble_eq_true rfl) (Nat.le_of_ble_eq_true rfl) (K)
theorem bL_law_85 {I : Nat → Nat → Int32} {L : Nat → Int64} {Q : Option Value → (Nat → Nat → Int32) → (Nat → Int64) → Prop} {Ln : Nat} {xs : Nat → Int32} {v3 : Int32} {v4 : Int32} {s0 : Int32}  (K : XS mL_whole 0 [(0, .ref 0)] [] I L (fun r I' L' => XT (50, 1188) Ln xs mL_law 91 [(0, .ref 1000020), (1, .ref 0), (2, .ref 49), (3, .int v3), (4, .int v4), (5, .int s0)] (r.toList ++ []) I' L' Q)) : XT (50, 1188) Ln xs mL_law 85 [(0, .ref 1000020), (1, .ref 0), (2, .ref 49), (3, .int v3), (4, .int v4)] [.int s0] I L Q := by
  refine x_istore [(0, .ref 1000020), (1, .ref 0), (2, .ref 49), (3, .int v3), (4, .int v4), (5, .int s0)] dL_law_85 (Nat.le_of_ble_eq_true rfl) rfl ?_
  refine x_aload_n 1 dL_law_87 rfl rfl ?_
  exact xt_callS mL_whole [.ref 0] [] 1 _ rfl dL_law_88 ml_L_68 qL_whole rfl ⟨Nat.le_of_ble_eq_true rfl, Nat.le_of_ble_eq_true rfl⟩ ⟨Nat.le_of_ble_eq_true rfl, Nat.le_of_ble_eq_true rfl⟩ ⟨rfl, rfl⟩ (Nat.le_of_ble_eq_true rfl) (Nat.le_of_ble_eq_true rfl) (K)
theorem bL_law_91 {I : Nat → Nat → Int32} {L : Nat → Int64} {Q : Option Value → (Nat → Nat → Int32) → (Nat → Int64) → Prop} {Ln : Nat} {xs : Nat → Int32} {v3 : Int32} {v4 : Int32} {v5 : Int32} {s0 : Int64}  (K : XS mL_part 0 [(0, .int (v5 >>> ((3 : Int32) &&& 31))), (1, .int (I 3136 0))] [] I L (fun r I' L' => XT (50, 1188) Ln xs mL_law 103 [(0, .ref 1000020), (1, .ref 0), (2, .ref 49), (3, .int v3), (4, .int v4), (5, .int v5), (6, .long s0)] (r.toList ++ []) I' L' Q)) : XT (50, 1188) Ln xs mL_law 91 [(0, .ref 1000020), (1, .ref 0), (2, .ref 49), (3, .int v3), (4, .int v4), (5, .int v5)] [.long s0] I L Q := by
  refine x_lstore [(0, .ref 1000020), (1, .ref 0), (2, .ref 49), (3, .int v3), (4, .int v4), (5, .int v5), (6, .long s0)] dL_law_91 (Nat.le_of_ble_eq_true rfl) rfl ?_
  refine x_iload 5 dL_law_93 rfl ?_
  refine x_iconst (v := (3 : Int32)) dL_law_95 (by decide) ?_
  refine x_ishr dL_law_96 ?_
  refine x_aload_n 2 dL_law_97 rfl rfl ?_
  refine x_iconst (v := (0 : Int32)) dL_law_98 (by decide) ?_
  refine xt_iald 3136 (0) dL_law_99 sh_49 rfl (by decide) (x_vpin (by decide)) ?_
  exact xt_callS mL_part [.int (v5 >>> ((3 : Int32) &&& 31)), .int (I 3136 0)] [] 2 _ rfl dL_law_100 ml_L_15 qL_part rfl ⟨Nat.le_of_ble_eq_true rfl, Nat.le_of_ble_eq_true rfl⟩ ⟨Nat.le_of_ble_eq_true rfl, Nat.le_of_ble_eq_true rfl⟩ ⟨rfl, rfl⟩ (Nat.le_of_ble_eq_true rfl) (Nat.le_of_ble_eq_true rfl) (K)
theorem bL_law_103 {I : Nat → Nat → Int32} {L : Nat → Int64} {Q : Option Value → (Nat → Nat → Int32) → (Nat → Int64) → Prop} {Ln : Nat} {xs : Nat → Int32} {v3 : Int32} {v4 : Int32} {v5 : Int32} {v6 : Int64} {s0 : Int32}  (K : XS mL_part 0 [(0, .int (v5 >>> ((6 : Int32) &&& 31))), (1, .int (I 3136 0))] [] I L (fun r I' L' => XT (50, 1188) Ln xs mL_law 116 [(0, .ref 1000020), (1, .ref 0), (2, .ref 49), (3, .int v3), (4, .int v4), (5, .int v5), (6, .long v6), (8, .int s0)] (r.toList ++ []) I' L' Q)) : XT (50, 1188) Ln xs mL_law 103 [(0, .ref 1000020), (1, .ref 0), (2, .ref 49), (3, .int v3), (4, .int v4), (5, .int v5), (6, .long v6)] [.int s0] I L Q := by
  refine x_istore [(0, .ref 1000020), (1, .ref 0), (2, .ref 49), (3, .int v3), (4, .int v4), (5, .int v5), (6, .long v6), (8, .int s0)] dL_law_103 (Nat.le_of_ble_eq_true rfl) rfl ?_
  refine x_iload 5 dL_law_105 rfl ?_
  refine x_bipush (v := (6 : Int32)) dL_law_107 (by decide) ?_
  refine x_ishr dL_law_109 ?_
  refine x_aload_n 2 dL_law_110 rfl rfl ?_
  refine x_iconst (v := (0 : Int32)) dL_law_111 (by decide) ?_
  refine xt_iald 3136 (0) dL_law_112 sh_49 rfl (by decide) (x_vpin (by decide)) ?_
  exact xt_callS mL_part [.int (v5 >>> ((6 : Int32) &&& 31)), .int (I 3136 0)] [] 2 _ rfl dL_law_113 ml_L_15 qL_part rfl ⟨Nat.le_of_ble_eq_true rfl, Nat.le_of_ble_eq_true rfl⟩ ⟨Nat.le_of_ble_eq_true rfl, Nat.le_of_ble_eq_true rfl⟩ ⟨rfl, rfl⟩ (Nat.le_of_ble_eq_true rfl) (Nat.le_of_ble_eq_true rfl) (K)
theorem bL_law_116 {I : Nat → Nat → Int32} {L : Nat → Int64} {Q : Option Value → (Nat → Nat → Int32) → (Nat → Int64) → Prop} {Ln : Nat} {xs : Nat → Int32} {v3 : Int32} {v4 : Int32} {v5 : Int32} {v6 : Int64} {v8 : Int32} {s0 : Int32}  (K : XS mL_part 0 [(0, .int v5), (1, .int (8 : Int32))] [] I L (fun r I' L' => XT (50, 1188) Ln xs mL_law 125 [(0, .ref 1000020), (1, .ref 0), (2, .ref 49), (3, .int v3), (4, .int v4), (5, .int v5), (6, .long v6), (8, .int v8), (9, .int s0)] (r.toList ++ []) I' L' Q)) : XT (50, 1188) Ln xs mL_law 116 [(0, .ref 1000020), (1, .ref 0), (2, .ref 49), (3, .int v3), (4, .int v4), (5, .int v5), (6, .long v6), (8, .int v8)] [.int s0] I L Q := by
  refine x_istore [(0, .ref 1000020), (1, .ref 0), (2, .ref 49), (3, .int v3), (4, .int v4), (5, .int v5), (6, .long v6), (8, .int v8), (9, .int s0)] dL_law_116 (Nat.le_of_ble_eq_true rfl) rfl ?_
  refine x_iload 5 dL_law_118 rfl ?_
  refine x_bipush (v := (8 : Int32)) dL_law_120 (by decide) ?_
  exact xt_callS mL_part [.int v5, .int (8 : Int32)] [] 2 _ rfl dL_law_122 ml_L_15 qL_part rfl ⟨Nat.le_of_ble_eq_true rfl, Nat.le_of_ble_eq_true rfl⟩ ⟨Nat.le_of_ble_eq_true rfl, Nat.le_of_ble_eq_true rfl⟩ ⟨rfl, rfl⟩ (Nat.le_of_ble_eq_true rfl) (Nat.le_of_ble_eq_true rfl) (K)
theorem bL_law_125 {I : Nat → Nat → Int32} {L : Nat → Int64} {Q : Option Value → (Nat → Nat → Int32) → (Nat → Int64) → Prop} {Ln : Nat} {xs : Nat → Int32} {v3 : Int32} {v4 : Int32} {v5 : Int32} {v6 : Int64} {v8 : Int32} {v9 : Int32} {s0 : Int32}  (K : XS mL_part 0 [(0, .int (v5 >>> ((9 : Int32) &&& 31))), (1, .int ((I 3136 1) + (1 : Int32)))] [] I L (fun r I' L' => XT (50, 1188) Ln xs mL_law 140 [(0, .ref 1000020), (1, .ref 0), (2, .ref 49), (3, .int v3), (4, .int v4), (5, .int v5), (6, .long v6), (8, .int v8), (9, .int v9), (10, .int s0)] (r.toList ++ []) I' L' Q)) : XT (50, 1188) Ln xs mL_law 125 [(0, .ref 1000020), (1, .ref 0), (2, .ref 49), (3, .int v3), (4, .int v4), (5, .int v5), (6, .long v6), (8, .int v8), (9, .int v9)] [.int s0] I L Q := by
  refine x_istore [(0, .ref 1000020), (1, .ref 0), (2, .ref 49), (3, .int v3), (4, .int v4), (5, .int v5), (6, .long v6), (8, .int v8), (9, .int v9), (10, .int s0)] dL_law_125 (Nat.le_of_ble_eq_true rfl) rfl ?_
  refine x_iload 5 dL_law_127 rfl ?_
  refine x_bipush (v := (9 : Int32)) dL_law_129 (by decide) ?_
  refine x_ishr dL_law_131 ?_
  refine x_aload_n 2 dL_law_132 rfl rfl ?_
  refine x_iconst (v := (1 : Int32)) dL_law_133 (by decide) ?_
  refine xt_iald 3136 (1) dL_law_134 sh_49 rfl (by decide) (x_vpin (by decide)) ?_
  refine x_iconst (v := (1 : Int32)) dL_law_135 (by decide) ?_
  refine x_iadd dL_law_136 ?_
  exact xt_callS mL_part [.int (v5 >>> ((9 : Int32) &&& 31)), .int ((I 3136 1) + (1 : Int32))] [] 2 _ rfl dL_law_137 ml_L_15 qL_part rfl ⟨Nat.le_of_ble_eq_true rfl, Nat.le_of_ble_eq_true rfl⟩ ⟨Nat.le_of_ble_eq_true rfl, Nat.le_of_ble_eq_true rfl⟩ ⟨rfl, rfl⟩ (Nat.le_of_ble_eq_true rfl) (Nat.le_of_ble_eq_true rfl) (K)
theorem bL_law_140 {I : Nat → Nat → Int32} {L : Nat → Int64} {Q : Option Value → (Nat → Nat → Int32) → (Nat → Int64) → Prop} {Ln : Nat} {xs : Nat → Int32} {v3 : Int32} {v4 : Int32} {v5 : Int32} {v6 : Int64} {v8 : Int32} {v9 : Int32} {v10 : Int32} {s0 : Int32}  (K1 : ((2 : Int32) ≤ v10) → XT (50, 1188) Ln xs mL_law 199 [(0, .ref 1000020), (1, .ref 0), (2, .ref 49), (3, .int v3), (4, .int v4), (5, .int v5), (6, .long v6), (8, .int v8), (9, .int v9), (10, .int v10), (11, .int s0)] [] I L Q) (K2 : (¬ (2 : Int32) ≤ v10) → XT (50, 1188) Ln xs mL_law 148 [(0, .ref 1000020), (1, .ref 0), (2, .ref 49), (3, .int v3), (4, .int v4), (5, .int v5), (9, .int v9)] [] I L Q) : XT (50, 1188) Ln xs mL_law 140 [(0, .ref 1000020), (1, .ref 0), (2, .ref 49), (3, .int v3), (4, .int v4), (5, .int v5), (6, .long v6), (8, .int v8), (9, .int v9), (10, .int v10)] [.int s0] I L Q := by
  refine x_istore [(0, .ref 1000020), (1, .ref 0), (2, .ref 49), (3, .int v3), (4, .int v4), (5, .int v5), (6, .long v6), (8, .int v8), (9, .int v9), (10, .int v10), (11, .int s0)] dL_law_140 (Nat.le_of_ble_eq_true rfl) rfl ?_
  refine x_iload 9 dL_law_142 rfl ?_
  refine x_iconst (v := (2 : Int32)) dL_law_144 (by decide) ?_
  exact x_icmp_ge 199 dL_law_145 (by decide) (fun h => K1 h) (fun h => x_sub [0, 1, 2, 3, 4, 5, 8] rfl (K2 h))
theorem bL_law_148 {I : Nat → Nat → Int32} {L : Nat → Int64} {Q : Option Value → (Nat → Nat → Int32) → (Nat → Int64) → Prop} {Ln : Nat} {xs : Nat → Int32} {v3 : Int32} {v4 : Int32} {v5 : Int32} {v9 : Int32}  (K : XS mL_part 0 [(0, .int (v5 >>> ((3 : Int32) &&& 31))), (1, .int (3 : Int32))] [] I L (fun r I' L' => XT (50, 1188) Ln xs mL_law 157 [(0, .ref 1000020), (1, .ref 0), (2, .ref 49), (3, .int v3), (4, .int v4), (5, .int v5), (9, .int v9)] (r.toList ++ [.ref 0]) I' L' Q)) : XT (50, 1188) Ln xs mL_law 148 [(0, .ref 1000020), (1, .ref 0), (2, .ref 49), (3, .int v3), (4, .int v4), (5, .int v5), (9, .int v9)] [] I L Q := by
  refine x_aload_n 1 dL_law_148 rfl rfl ?_
  refine x_iload 5 dL_law_149 rfl ?_
  refine x_iconst (v := (3 : Int32)) dL_law_151 (by decide) ?_
  refine x_ishr dL_law_152 ?_
  refine x_iconst (v := (3 : Int32)) dL_law_153 (by decide) ?_
  exact xt_callS mL_part [.int (v5 >>> ((3 : Int32) &&& 31)), .int (3 : Int32)] [.ref 0] 2 _ rfl dL_law_154 ml_L_15 qL_part rfl ⟨Nat.le_of_ble_eq_true rfl, Nat.le_of_ble_eq_true rfl⟩ ⟨Nat.le_of_ble_eq_true rfl, Nat.le_of_ble_eq_true rfl⟩ ⟨rfl, rfl⟩ (Nat.le_of_ble_eq_true rfl) (Nat.le_of_ble_eq_true rfl) (K)
theorem bL_law_157 {I : Nat → Nat → Int32} {L : Nat → Int64} {Q : Option Value → (Nat → Nat → Int32) → (Nat → Int64) → Prop} {Ln : Nat} {xs : Nat → Int32} {v3 : Int32} {v4 : Int32} {v5 : Int32} {v9 : Int32} {s1 : Int32}  (K : XS mL_part 0 [(0, .int (v5 >>> ((9 : Int32) &&& 31))), (1, .int (8 : Int32))] [] I L (fun r I' L' => XT (50, 1188) Ln xs mL_law 167 [(0, .ref 1000020), (1, .ref 0), (2, .ref 49), (3, .int v3), (4, .int v4), (9, .int v9)] (r.toList ++ [.int s1, .ref 0]) I' L' Q)) : XT (50, 1188) Ln xs mL_law 157 [(0, .ref 1000020), (1, .ref 0), (2, .ref 49), (3, .int v3), (4, .int v4), (5, .int v5), (9, .int v9)] [.int s1, .ref 0] I L Q := by
  refine x_iload 5 dL_law_157 rfl ?_
  refine x_bipush (v := (9 : Int32)) dL_law_159 (by decide) ?_
  refine x_ishr dL_law_161 ?_
  refine x_bipush (v := (8 : Int32)) dL_law_162 (by decide) ?_
  refine x_sub [0, 1, 2, 3, 4, 6] rfl ?_
  exact xt_callS mL_part [.int (v5 >>> ((9 : Int32) &&& 31)), .int (8 : Int32)] [.int s1, .ref 0] 2 _ rfl dL_law_164 ml_L_15 qL_part rfl ⟨Nat.le_of_ble_eq_true rfl, Nat.le_of_ble_eq_true rfl⟩ ⟨Nat.le_of_ble_eq_true rfl, Nat.le_of_ble_eq_true rfl⟩ ⟨rfl, rfl⟩ (Nat.le_of_ble_eq_true rfl) (Nat.le_of_ble_eq_true rfl) (K)
theorem bL_law_167 {I : Nat → Nat → Int32} {L : Nat → Int64} {Q : Option Value → (Nat → Nat → Int32) → (Nat → Int64) → Prop} {Ln : Nat} {xs : Nat → Int32} {v3 : Int32} {v4 : Int32} {v9 : Int32} {s1 : Int32} {s2 : Int32}  (K : XS mX9_push 0 [(0, .ref 0), (1, .int s1), (2, .int s2)] [] I L (fun r I' L' => XT (50, 1188) Ln xs mL_law 170 [(0, .ref 1000020), (1, .ref 0), (2, .ref 49), (3, .int v3), (4, .int v4), (9, .int v9)] (r.toList ++ []) I' L' Q)) : XT (50, 1188) Ln xs mL_law 167 [(0, .ref 1000020), (1, .ref 0), (2, .ref 49), (3, .int v3), (4, .int v4), (9, .int v9)] [.int s2, .int s1, .ref 0] I L Q := by
  exact xt_callV mX9_push [.int s1, .int s2] [] 0 9 2 _ rfl dL_law_167 ml_L_103 qX9_push rfl ⟨Nat.le_of_ble_eq_true rfl, Nat.le_of_ble_eq_true rfl⟩ ⟨Nat.le_of_ble_eq_true rfl, Nat.le_of_ble_eq_true rfl⟩ ⟨rfl, rfl⟩ (Nat.le_of_ble_eq_true rfl) sh_0 (by decide) rfl (Nat.le_of_ble_eq_true rfl) (K)
theorem bL_law_170 {I : Nat → Nat → Int32} {L : Nat → Int64} {Q : Option Value → (Nat → Nat → Int32) → (Nat → Int64) → Prop} {Ln : Nat} {xs : Nat → Int32} {v3 : Int32} {v4 : Int32} {v9 : Int32} {s0 : Int32}  (K1 : (s0 < (-5 : Int32)) → XT (50, 1188) Ln xs mL_law 185 [] [] I L Q) (K2 : (¬ s0 < (-5 : Int32)) → XT (50, 1188) Ln xs mL_law 175 [(0, .ref 1000020), (1, .ref 0), (2, .ref 49), (3, .int v3), (4, .int v4), (9, .int v9)] [] I L Q) : XT (50, 1188) Ln xs mL_law 170 [(0, .ref 1000020), (1, .ref 0), (2, .ref 49), (3, .int v3), (4, .int v4), (9, .int v9)] [.int s0] I L Q := by
  refine x_bipush (v := (-5 : Int32)) dL_law_170 (by decide) ?_
  exact x_icmp_lt 185 dL_law_172 (by decide) (fun h => x_sub [] rfl (K1 h)) (fun h => K2 h)
theorem bL_law_175 {I : Nat → Nat → Int32} {L : Nat → Int64} {Q : Option Value → (Nat → Nat → Int32) → (Nat → Int64) → Prop} {Ln : Nat} {xs : Nat → Int32} {v3 : Int32} {v4 : Int32} {v9 : Int32}  (K : XS mX9_count 0 [(0, .ref 0), (1, .int (4 : Int32))] [] I L (fun r I' L' => XT (50, 1188) Ln xs mL_law 180 [(0, .ref 1000020), (1, .ref 0), (2, .ref 49), (3, .int v3), (4, .int v4), (9, .int v9)] (r.toList ++ []) I' L' Q)) : XT (50, 1188) Ln xs mL_law 175 [(0, .ref 1000020), (1, .ref 0), (2, .ref 49), (3, .int v3), (4, .int v4), (9, .int v9)] [] I L Q := by
  refine x_aload_n 1 dL_law_175 rfl rfl ?_
  refine x_iconst (v := (4 : Int32)) dL_law_176 (by decide) ?_
  exact xt_callV mX9_count [.int (4 : Int32)] [] 0 9 1 _ rfl dL_law_177 ml_L_39 qX9_count rfl ⟨Nat.le_of_ble_eq_true rfl, Nat.le_of_ble_eq_true rfl⟩ ⟨Nat.le_of_ble_eq_true rfl, Nat.le_of_ble_eq_true rfl⟩ ⟨rfl, rfl⟩ (Nat.le_of_ble_eq_true rfl) sh_0 (by decide) rfl (Nat.le_of_ble_eq_true rfl) (K)
theorem bL_law_180 {I : Nat → Nat → Int32} {L : Nat → Int64} {Q : Option Value → (Nat → Nat → Int32) → (Nat → Int64) → Prop} {Ln : Nat} {xs : Nat → Int32} {v3 : Int32} {v4 : Int32} {v9 : Int32} {s0 : Int32}  (K1 : (s0 ≤ (8 : Int32)) → XT (50, 1188) Ln xs mL_law 187 [(0, .ref 1000020), (1, .ref 0), (2, .ref 49), (3, .int v3), (4, .int v4), (9, .int v9)] [] I L Q) (K2 : (¬ s0 ≤ (8 : Int32)) → XT (50, 1188) Ln xs mL_law 185 [] [] I L Q) : XT (50, 1188) Ln xs mL_law 180 [(0, .ref 1000020), (1, .ref 0), (2, .ref 49), (3, .int v3), (4, .int v4), (9, .int v9)] [.int s0] I L Q := by
  refine x_bipush (v := (8 : Int32)) dL_law_180 (by decide) ?_
  exact x_icmp_le 187 dL_law_182 (by decide) (fun h => K1 h) (fun h => x_sub [] rfl (K2 h))
theorem bL_law_185 {I : Nat → Nat → Int32} {L : Nat → Int64} {Q : Option Value → (Nat → Nat → Int32) → (Nat → Int64) → Prop} {Ln : Nat} {xs : Nat → Int32}   (K : Q (some (.int (0 : Int32))) I L) : XT (50, 1188) Ln xs mL_law 185 [] [] I L Q := by
  refine x_iconst (v := (0 : Int32)) dL_law_185 (by decide) ?_
  exact xt_iret dL_law_186 rfl (x_nar _ (Or.inl rfl)) K
theorem bL_law_187 {I : Nat → Nat → Int32} {L : Nat → Int64} {Q : Option Value → (Nat → Nat → Int32) → (Nat → Int64) → Prop} {Ln : Nat} {xs : Nat → Int32} {v3 : Int32} {v4 : Int32} {v9 : Int32}  (K : XS mL_goes 0 [(0, .ref 0), (1, .ref 49), (2, .int v9)] [] I L (fun r I' L' => XT (50, 1188) Ln xs mL_law 194 [(0, .ref 1000020), (1, .ref 0), (2, .ref 49), (3, .int v3), (4, .int v4)] (r.toList ++ []) I' L' Q)) : XT (50, 1188) Ln xs mL_law 187 [(0, .ref 1000020), (1, .ref 0), (2, .ref 49), (3, .int v3), (4, .int v4), (9, .int v9)] [] I L Q := by
  refine x_aload_n 1 dL_law_187 rfl rfl ?_
  refine x_aload_n 2 dL_law_188 rfl rfl ?_
  refine x_iload 5 dL_law_189 rfl ?_
  refine x_sub [0, 1, 2, 3, 4] rfl ?_
  exact xt_callS mL_goes [.ref 0, .ref 49, .int v9] [] 3 _ rfl dL_law_191 ml_L_143 qL_goes rfl ⟨Nat.le_of_ble_eq_true rfl, Nat.le_of_ble_eq_true rfl⟩ ⟨Nat.le_of_ble_eq_true rfl, Nat.le_of_ble_eq_true rfl⟩ ⟨rfl, rfl⟩ (Nat.le_of_ble_eq_true rfl) (Nat.le_of_ble_eq_true rfl) (K)
theorem bL_law_194 {I : Nat → Nat → Int32} {L : Nat → Int64} {Q : Option Value → (Nat → Nat → Int32) → (Nat → Int64) → Prop} {Ln : Nat} {xs : Nat → Int32} {v3 : Int32} {v4 : Int32} {s0 : Int32}  (K1 : (¬ s0 = 0) → XT (50, 1188) Ln xs mL_law 484 [(0, .ref 1000020), (1, .ref 0), (2, .ref 49), (3, .int v3), (4, .int v4)] [] I L Q) (K2 : (s0 = 0) → XT (50, 1188) Ln xs mL_law 197 [] [] I L Q) : XT (50, 1188) Ln xs mL_law 194 [(0, .ref 1000020), (1, .ref 0), (2, .ref 49), (3, .int v3), (4, .int v4)] [.int s0] I L Q := by
  exact x_if_ne 484 dL_law_194 (by decide) (fun h => K1 h) (fun h => x_sub [] rfl (K2 h))
theorem bL_law_197 {I : Nat → Nat → Int32} {L : Nat → Int64} {Q : Option Value → (Nat → Nat → Int32) → (Nat → Int64) → Prop} {Ln : Nat} {xs : Nat → Int32}   (K : Q (some (.int (0 : Int32))) I L) : XT (50, 1188) Ln xs mL_law 197 [] [] I L Q := by
  refine x_iconst (v := (0 : Int32)) dL_law_197 (by decide) ?_
  exact xt_iret dL_law_198 rfl (x_nar _ (Or.inl rfl)) K
theorem bL_law_199 {I : Nat → Nat → Int32} {L : Nat → Int64} {Q : Option Value → (Nat → Nat → Int32) → (Nat → Int64) → Prop} {Ln : Nat} {xs : Nat → Int32} {v3 : Int32} {v4 : Int32} {v5 : Int32} {v6 : Int64} {v8 : Int32} {v9 : Int32} {v10 : Int32} {v11 : Int32}  (K1 : (¬ v10 = (2 : Int32)) → XT (50, 1188) Ln xs mL_law 287 [(0, .ref 1000020), (1, .ref 0), (2, .ref 49), (3, .int v3), (4, .int v4), (5, .int v5), (6, .long v6), (8, .int v8), (10, .int v10), (11, .int v11)] [] I L Q) (K2 : (v10 = (2 : Int32)) → XT (50, 1188) Ln xs mL_law 205 [(0, .ref 1000020), (1, .ref 0), (2, .ref 49), (3, .int v3), (4, .int v4), (5, .int v5), (8, .int v8), (9, .int v9)] [] I L Q) : XT (50, 1188) Ln xs mL_law 199 [(0, .ref 1000020), (1, .ref 0), (2, .ref 49), (3, .int v3), (4, .int v4), (5, .int v5), (6, .long v6), (8, .int v8), (9, .int v9), (10, .int v10), (11, .int v11)] [] I L Q := by
  refine x_iload 9 dL_law_199 rfl ?_
  refine x_iconst (v := (2 : Int32)) dL_law_201 (by decide) ?_
  exact x_icmp_ne 287 dL_law_202 (by decide) (fun h => x_sub [0, 1, 2, 3, 4, 5, 6, 7, 9, 10] rfl (K1 h)) (fun h => x_sub [0, 1, 2, 3, 4, 5, 7, 8] rfl (K2 h))
theorem bL_law_205 {I : Nat → Nat → Int32} {L : Nat → Int64} {Q : Option Value → (Nat → Nat → Int32) → (Nat → Int64) → Prop} {Ln : Nat} {xs : Nat → Int32} {v3 : Int32} {v4 : Int32} {v5 : Int32} {v8 : Int32} {v9 : Int32}  (K : XS mX9_trace 0 [(0, .ref 0), (1, .int v8)] [] I L (fun r I' L' => XT (50, 1188) Ln xs mL_law 211 [(0, .ref 1000020), (1, .ref 0), (2, .ref 49), (3, .int v3), (4, .int v4), (5, .int v5), (9, .int v9)] (r.toList ++ []) I' L' Q)) : XT (50, 1188) Ln xs mL_law 205 [(0, .ref 1000020), (1, .ref 0), (2, .ref 49), (3, .int v3), (4, .int v4), (5, .int v5), (8, .int v8), (9, .int v9)] [] I L Q := by
  refine x_aload_n 1 dL_law_205 rfl rfl ?_
  refine x_iload 6 dL_law_206 rfl ?_
  refine x_sub [0, 1, 2, 3, 4, 5, 7] rfl ?_
  exact xt_callV mX9_trace [.int v8] [] 0 9 1 _ rfl dL_law_208 ml_L_110 qX9_trace rfl ⟨Nat.le_of_ble_eq_true rfl, Nat.le_of_ble_eq_true rfl⟩ ⟨Nat.le_of_ble_eq_true rfl, Nat.le_of_ble_eq_true rfl⟩ ⟨rfl, rfl⟩ (Nat.le_of_ble_eq_true rfl) sh_0 (by decide) rfl (Nat.le_of_ble_eq_true rfl) (K)
theorem bL_law_211 {I : Nat → Nat → Int32} {L : Nat → Int64} {Q : Option Value → (Nat → Nat → Int32) → (Nat → Int64) → Prop} {Ln : Nat} {xs : Nat → Int32} {v3 : Int32} {v4 : Int32} {v5 : Int32} {v9 : Int32} {s0 : Int32}  (K : XS mX9_trace 0 [(0, .ref 0), (1, .int v9)] [] I L (fun r I' L' => XT (50, 1188) Ln xs mL_law 218 [(0, .ref 1000020), (1, .ref 0), (2, .ref 49), (3, .int v3), (4, .int v4), (5, .int v5), (9, .int v9)] (r.toList ++ []) I' L' Q)) : XT (50, 1188) Ln xs mL_law 211 [(0, .ref 1000020), (1, .ref 0), (2, .ref 49), (3, .int v3), (4, .int v4), (5, .int v5), (9, .int v9)] [.int s0] I L Q := by
  refine x_pop dL_law_211 rfl ?_
  refine x_aload_n 1 dL_law_212 rfl rfl ?_
  refine x_iload 6 dL_law_213 rfl ?_
  exact xt_callV mX9_trace [.int v9] [] 0 9 1 _ rfl dL_law_215 ml_L_110 qX9_trace rfl ⟨Nat.le_of_ble_eq_true rfl, Nat.le_of_ble_eq_true rfl⟩ ⟨Nat.le_of_ble_eq_true rfl, Nat.le_of_ble_eq_true rfl⟩ ⟨rfl, rfl⟩ (Nat.le_of_ble_eq_true rfl) sh_0 (by decide) rfl (Nat.le_of_ble_eq_true rfl) (K)
theorem bL_law_218 {I : Nat → Nat → Int32} {L : Nat → Int64} {Q : Option Value → (Nat → Nat → Int32) → (Nat → Int64) → Prop} {Ln : Nat} {xs : Nat → Int32} {v3 : Int32} {v4 : Int32} {v5 : Int32} {v9 : Int32} {s0 : Int32} (hn1 : ¬ (I 3136 0) = 0) (K : XS mX9_trace 0 [(0, .ref 0), (1, .int ((v9 + (1 : Int32)) - (v9 + (1 : Int32)) / (I 3136 0) * (I 3136 0)))] [] I L (fun r I' L' => XT (50, 1188) Ln xs mL_law 231 [(0, .ref 1000020), (1, .ref 0), (2, .ref 49), (3, .int v3), (4, .int v4), (5, .int v5)] (r.toList ++ []) I' L' Q)) : XT (50, 1188) Ln xs mL_law 218 [(0, .ref 1000020), (1, .ref 0), (2, .ref 49), (3, .int v3), (4, .int v4), (5, .int v5), (9, .int v9)] [.int s0] I L Q := by
  refine x_pop dL_law_218 rfl ?_
  refine x_aload_n 1 dL_law_219 rfl rfl ?_
  refine x_iload 6 dL_law_220 rfl ?_
  refine x_iconst (v := (1 : Int32)) dL_law_222 (by decide) ?_
  refine x_iadd dL_law_223 ?_
  refine x_aload_n 2 dL_law_224 rfl rfl ?_
  refine x_iconst (v := (0 : Int32)) dL_law_225 (by decide) ?_
  refine xt_iald 3136 (0) dL_law_226 sh_49 rfl (by decide) (x_vpin (by decide)) ?_
  refine x_irem dL_law_227 hn1 ?_
  refine x_sub [0, 1, 2, 3, 4, 5] rfl ?_
  exact xt_callV mX9_trace [.int ((v9 + (1 : Int32)) - (v9 + (1 : Int32)) / (I 3136 0) * (I 3136 0))] [] 0 9 1 _ rfl dL_law_228 ml_L_110 qX9_trace rfl ⟨Nat.le_of_ble_eq_true rfl, Nat.le_of_ble_eq_true rfl⟩ ⟨Nat.le_of_ble_eq_true rfl, Nat.le_of_ble_eq_true rfl⟩ ⟨rfl, rfl⟩ (Nat.le_of_ble_eq_true rfl) sh_0 (by decide) rfl (Nat.le_of_ble_eq_true rfl) (K)
theorem bL_law_231 {I : Nat → Nat → Int32} {L : Nat → Int64} {Q : Option Value → (Nat → Nat → Int32) → (Nat → Int64) → Prop} {Ln : Nat} {xs : Nat → Int32} {v3 : Int32} {v4 : Int32} {v5 : Int32} {s0 : Int32}  (K : XS mX9_brief 0 [(0, .ref 0), (1, .int (-1 : Int32))] [] I L (fun r I' L' => XT (50, 1188) Ln xs mL_law 237 [(0, .ref 1000020), (1, .ref 0), (2, .ref 49), (3, .int v3), (4, .int v4), (5, .int v5)] (r.toList ++ []) I' L' Q)) : XT (50, 1188) Ln xs mL_law 231 [(0, .ref 1000020), (1, .ref 0), (2, .ref 49), (3, .int v3), (4, .int v4), (5, .int v5)] [.int s0] I L Q := by
  refine x_pop dL_law_231 rfl ?_
  refine x_aload_n 1 dL_law_232 rfl rfl ?_
  refine x_iconst (v := (-1 : Int32)) dL_law_233 (by decide) ?_
  exact xt_callV mX9_brief [.int (-1 : Int32)] [] 0 9 1 _ rfl dL_law_234 ml_L_63 qX9_brief rfl ⟨Nat.le_of_ble_eq_true rfl, Nat.le_of_ble_eq_true rfl⟩ ⟨Nat.le_of_ble_eq_true rfl, Nat.le_of_ble_eq_true rfl⟩ ⟨rfl, rfl⟩ (Nat.le_of_ble_eq_true rfl) sh_0 (by decide) rfl (Nat.le_of_ble_eq_true rfl) (K)
theorem bL_law_237 {I : Nat → Nat → Int32} {L : Nat → Int64} {Q : Option Value → (Nat → Nat → Int32) → (Nat → Int64) → Prop} {Ln : Nat} {xs : Nat → Int32} {v3 : Int32} {v4 : Int32} {v5 : Int32} {s0 : Int32}  (K : XS mX9_count 0 [(0, .ref 0), (1, .int (5 : Int32))] [] I L (fun r I' L' => XT (50, 1188) Ln xs mL_law 246 [(0, .ref 1000020), (1, .ref 0), (2, .ref 49), (3, .int v3), (4, .int v4), (5, .int v5), (12, .int s0)] (r.toList ++ [.int s0]) I' L' Q)) : XT (50, 1188) Ln xs mL_law 237 [(0, .ref 1000020), (1, .ref 0), (2, .ref 49), (3, .int v3), (4, .int v4), (5, .int v5)] [.int s0] I L Q := by
  refine x_istore [(0, .ref 1000020), (1, .ref 0), (2, .ref 49), (3, .int v3), (4, .int v4), (5, .int v5), (12, .int s0)] dL_law_237 (Nat.le_of_ble_eq_true rfl) rfl ?_
  refine x_iload 6 dL_law_239 rfl ?_
  refine x_aload_n 1 dL_law_241 rfl rfl ?_
  refine x_iconst (v := (5 : Int32)) dL_law_242 (by decide) ?_
  exact xt_callV mX9_count [.int (5 : Int32)] [.int s0] 0 9 1 _ rfl dL_law_243 ml_L_39 qX9_count rfl ⟨Nat.le_of_ble_eq_true rfl, Nat.le_of_ble_eq_true rfl⟩ ⟨Nat.le_of_ble_eq_true rfl, Nat.le_of_ble_eq_true rfl⟩ ⟨rfl, rfl⟩ (Nat.le_of_ble_eq_true rfl) sh_0 (by decide) rfl (Nat.le_of_ble_eq_true rfl) (K)
theorem bL_law_246 {I : Nat → Nat → Int32} {L : Nat → Int64} {Q : Option Value → (Nat → Nat → Int32) → (Nat → Int64) → Prop} {Ln : Nat} {xs : Nat → Int32} {v3 : Int32} {v4 : Int32} {v5 : Int32} {v12 : Int32} {s0 : Int32} {s1 : Int32}  (K1 : ((s1 - (1 : Int32)) < s0) → XT (50, 1188) Ln xs mL_law 285 [] [] I L Q) (K2 : (¬ (s1 - (1 : Int32)) < s0) → XT (50, 1188) Ln xs mL_law 251 [(0, .ref 1000020), (1, .ref 0), (2, .ref 49), (3, .int v3), (4, .int v4), (5, .int v5), (12, .int v12)] [] I L Q) : XT (50, 1188) Ln xs mL_law 246 [(0, .ref 1000020), (1, .ref 0), (2, .ref 49), (3, .int v3), (4, .int v4), (5, .int v5), (12, .int v12)] [.int s1, .int s0] I L Q := by
  refine x_iconst (v := (1 : Int32)) dL_law_246 (by decide) ?_
  refine x_isub dL_law_247 ?_
  exact x_icmp_gt 285 dL_law_248 (by decide) (fun h => x_sub [] rfl (K1 h)) (fun h => K2 h)
theorem bL_law_251 {I : Nat → Nat → Int32} {L : Nat → Int64} {Q : Option Value → (Nat → Nat → Int32) → (Nat → Int64) → Prop} {Ln : Nat} {xs : Nat → Int32} {v3 : Int32} {v4 : Int32} {v5 : Int32} {v12 : Int32}  (K1 : (¬ v12 = 0) → XT (50, 1188) Ln xs mL_law 265 [(0, .ref 1000020), (1, .ref 0), (2, .ref 49), (3, .int v3), (4, .int v4), (5, .int v5)] [] I L Q) (K2 : (v12 = 0) → XT (50, 1188) Ln xs mL_law 256 [(0, .ref 1000020), (1, .ref 0), (2, .ref 49), (3, .int v3), (4, .int v4), (5, .int v5)] [] I L Q) : XT (50, 1188) Ln xs mL_law 251 [(0, .ref 1000020), (1, .ref 0), (2, .ref 49), (3, .int v3), (4, .int v4), (5, .int v5), (12, .int v12)] [] I L Q := by
  refine x_iload 6 dL_law_251 rfl ?_
  exact x_if_ne 265 dL_law_253 (by decide) (fun h => x_sub [0, 1, 2, 3, 4, 5] rfl (K1 h)) (fun h => x_sub [0, 1, 2, 3, 4, 5] rfl (K2 h))
theorem bL_law_256 {I : Nat → Nat → Int32} {L : Nat → Int64} {Q : Option Value → (Nat → Nat → Int32) → (Nat → Int64) → Prop} {Ln : Nat} {xs : Nat → Int32} {v3 : Int32} {v4 : Int32} {v5 : Int32}  (K : XS mX9_count 0 [(0, .ref 0), (1, .int (5 : Int32))] [] I L (fun r I' L' => XT (50, 1188) Ln xs mL_law 261 [(0, .ref 1000020), (1, .ref 0), (2, .ref 49), (3, .int v3), (4, .int v4), (5, .int v5)] (r.toList ++ []) I' L' Q)) : XT (50, 1188) Ln xs mL_law 256 [(0, .ref 1000020), (1, .ref 0), (2, .ref 49), (3, .int v3), (4, .int v4), (5, .int v5)] [] I L Q := by
  refine x_aload_n 1 dL_law_256 rfl rfl ?_
  refine x_iconst (v := (5 : Int32)) dL_law_257 (by decide) ?_
  exact xt_callV mX9_count [.int (5 : Int32)] [] 0 9 1 _ rfl dL_law_258 ml_L_39 qX9_count rfl ⟨Nat.le_of_ble_eq_true rfl, Nat.le_of_ble_eq_true rfl⟩ ⟨Nat.le_of_ble_eq_true rfl, Nat.le_of_ble_eq_true rfl⟩ ⟨rfl, rfl⟩ (Nat.le_of_ble_eq_true rfl) sh_0 (by decide) rfl (Nat.le_of_ble_eq_true rfl) (K)
theorem bL_law_261 {I : Nat → Nat → Int32} {L : Nat → Int64} {Q : Option Value → (Nat → Nat → Int32) → (Nat → Int64) → Prop} {Ln : Nat} {xs : Nat → Int32} {v3 : Int32} {v4 : Int32} {v5 : Int32} {s0 : Int32}  (K1 : ((1 : Int32) < s0) → XT (50, 1188) Ln xs mL_law 285 [] [] I L Q) (K2 : (¬ (1 : Int32) < s0) → XT (50, 1188) Ln xs mL_law 265 [(0, .ref 1000020), (1, .ref 0), (2, .ref 49), (3, .int v3), (4, .int v4), (5, .int v5)] [] I L Q) : XT (50, 1188) Ln xs mL_law 261 [(0, .ref 1000020), (1, .ref 0), (2, .ref 49), (3, .int v3), (4, .int v4), (5, .int v5)] [.int s0] I L Q := by
  refine x_iconst (v := (1 : Int32)) dL_law_261 (by decide) ?_
  exact x_icmp_gt 285 dL_law_262 (by decide) (fun h => x_sub [] rfl (K1 h)) (fun h => K2 h)
theorem bL_law_265 {I : Nat → Nat → Int32} {L : Nat → Int64} {Q : Option Value → (Nat → Nat → Int32) → (Nat → Int64) → Prop} {Ln : Nat} {xs : Nat → Int32} {v3 : Int32} {v4 : Int32} {v5 : Int32}  (K : XS mL_part 0 [(0, .int (v5 >>> ((12 : Int32) &&& 31))), (1, .int (3 : Int32))] [] I L (fun r I' L' => XT (50, 1188) Ln xs mL_law 274 [(0, .ref 1000020), (1, .ref 0), (2, .ref 49), (3, .int v3), (4, .int v4)] (r.toList ++ []) I' L' Q)) : XT (50, 1188) Ln xs mL_law 265 [(0, .ref 1000020), (1, .ref 0), (2, .ref 49), (3, .int v3), (4, .int v4), (5, .int v5)] [] I L Q := by
  refine x_iload 5 dL_law_265 rfl ?_
  refine x_bipush (v := (12 : Int32)) dL_law_267 (by decide) ?_
  refine x_ishr dL_law_269 ?_
  refine x_iconst (v := (3 : Int32)) dL_law_270 (by decide) ?_
  refine x_sub [0, 1, 2, 3, 4] rfl ?_
  exact xt_callS mL_part [.int (v5 >>> ((12 : Int32) &&& 31)), .int (3 : Int32)] [] 2 _ rfl dL_law_271 ml_L_15 qL_part rfl ⟨Nat.le_of_ble_eq_true rfl, Nat.le_of_ble_eq_true rfl⟩ ⟨Nat.le_of_ble_eq_true rfl, Nat.le_of_ble_eq_true rfl⟩ ⟨rfl, rfl⟩ (Nat.le_of_ble_eq_true rfl) (Nat.le_of_ble_eq_true rfl) (K)
theorem bL_law_274 {I : Nat → Nat → Int32} {L : Nat → Int64} {Q : Option Value → (Nat → Nat → Int32) → (Nat → Int64) → Prop} {Ln : Nat} {xs : Nat → Int32} {v3 : Int32} {v4 : Int32} {s0 : Int32}  (K1 : (¬ s0 = 0) → XT (50, 1188) Ln xs mL_law 484 [(0, .ref 1000020), (1, .ref 0), (2, .ref 49), (3, .int v3), (4, .int v4)] [] I L Q) (K2 : (s0 = 0) → XT (50, 1188) Ln xs mL_law 277 [(0, .ref 1000020), (1, .ref 0), (2, .ref 49), (3, .int v3), (4, .int v4)] [] I L Q) : XT (50, 1188) Ln xs mL_law 274 [(0, .ref 1000020), (1, .ref 0), (2, .ref 49), (3, .int v3), (4, .int v4)] [.int s0] I L Q := by
  exact x_if_ne 484 dL_law_274 (by decide) (fun h => K1 h) (fun h => K2 h)
theorem bL_law_277 {I : Nat → Nat → Int32} {L : Nat → Int64} {Q : Option Value → (Nat → Nat → Int32) → (Nat → Int64) → Prop} {Ln : Nat} {xs : Nat → Int32} {v3 : Int32} {v4 : Int32}  (K : XS mX9_untrace 0 [(0, .ref 0)] [] I L (fun r I' L' => XT (50, 1188) Ln xs mL_law 281 [(0, .ref 1000020), (1, .ref 0), (2, .ref 49), (3, .int v3), (4, .int v4)] (r.toList ++ []) I' L' Q)) : XT (50, 1188) Ln xs mL_law 277 [(0, .ref 1000020), (1, .ref 0), (2, .ref 49), (3, .int v3), (4, .int v4)] [] I L Q := by
  refine x_aload_n 1 dL_law_277 rfl rfl ?_
  exact xt_callV mX9_untrace [] [] 0 9 0 _ rfl dL_law_278 ml_L_147 qX9_untrace rfl ⟨Nat.le_of_ble_eq_true rfl, Nat.le_of_ble_eq_true rfl⟩ ⟨Nat.le_of_ble_eq_true rfl, Nat.le_of_ble_eq_true rfl⟩ ⟨rfl, rfl⟩ (Nat.le_of_ble_eq_true rfl) sh_0 (by decide) rfl (Nat.le_of_ble_eq_true rfl) (K)
theorem bL_law_281 {I : Nat → Nat → Int32} {L : Nat → Int64} {Q : Option Value → (Nat → Nat → Int32) → (Nat → Int64) → Prop} {Ln : Nat} {xs : Nat → Int32} {v3 : Int32} {v4 : Int32} {s0 : Int32}  (K1 : ((1 : Int32) ≤ s0) → XT (50, 1188) Ln xs mL_law 484 [(0, .ref 1000020), (1, .ref 0), (2, .ref 49), (3, .int v3), (4, .int v4)] [] I L Q) (K2 : (¬ (1 : Int32) ≤ s0) → XT (50, 1188) Ln xs mL_law 285 [] [] I L Q) : XT (50, 1188) Ln xs mL_law 281 [(0, .ref 1000020), (1, .ref 0), (2, .ref 49), (3, .int v3), (4, .int v4)] [.int s0] I L Q := by
  refine x_iconst (v := (1 : Int32)) dL_law_281 (by decide) ?_
  exact x_icmp_ge 484 dL_law_282 (by decide) (fun h => K1 h) (fun h => x_sub [] rfl (K2 h))
theorem bL_law_285 {I : Nat → Nat → Int32} {L : Nat → Int64} {Q : Option Value → (Nat → Nat → Int32) → (Nat → Int64) → Prop} {Ln : Nat} {xs : Nat → Int32}   (K : Q (some (.int (0 : Int32))) I L) : XT (50, 1188) Ln xs mL_law 285 [] [] I L Q := by
  refine x_iconst (v := (0 : Int32)) dL_law_285 (by decide) ?_
  exact xt_iret dL_law_286 rfl (x_nar _ (Or.inl rfl)) K
theorem bL_law_287 {I : Nat → Nat → Int32} {L : Nat → Int64} {Q : Option Value → (Nat → Nat → Int32) → (Nat → Int64) → Prop} {Ln : Nat} {xs : Nat → Int32} {v3 : Int32} {v4 : Int32} {v5 : Int32} {v6 : Int64} {v8 : Int32} {v10 : Int32} {v11 : Int32}  (K1 : (¬ v10 = (3 : Int32)) → XT (50, 1188) Ln xs mL_law 302 [(0, .ref 1000020), (1, .ref 0), (2, .ref 49), (3, .int v3), (4, .int v4), (5, .int v5), (6, .long v6), (8, .int v8), (10, .int v10), (11, .int v11)] [] I L Q) (K2 : (v10 = (3 : Int32)) → XT (50, 1188) Ln xs mL_law 293 [(0, .ref 1000020), (1, .ref 0), (2, .ref 49), (3, .int v3), (4, .int v4), (5, .int v5), (6, .long v6), (10, .int v10), (11, .int v11)] [] I L Q) : XT (50, 1188) Ln xs mL_law 287 [(0, .ref 1000020), (1, .ref 0), (2, .ref 49), (3, .int v3), (4, .int v4), (5, .int v5), (6, .long v6), (8, .int v8), (10, .int v10), (11, .int v11)] [] I L Q := by
  refine x_iload 8 dL_law_287 rfl ?_
  refine x_iconst (v := (3 : Int32)) dL_law_289 (by decide) ?_
  exact x_icmp_ne 302 dL_law_290 (by decide) (fun h => K1 h) (fun h => x_sub [0, 1, 2, 3, 4, 5, 6, 8, 9] rfl (K2 h))
theorem bL_law_293 {I : Nat → Nat → Int32} {L : Nat → Int64} {Q : Option Value → (Nat → Nat → Int32) → (Nat → Int64) → Prop} {Ln : Nat} {xs : Nat → Int32} {v3 : Int32} {v4 : Int32} {v5 : Int32} {v6 : Int64} {v10 : Int32} {v11 : Int32}  (K : XS mX9_fail 0 [(0, .ref 0), (1, .int v11)] [] I L (fun r I' L' => XT (50, 1188) Ln xs mL_law 299 [(0, .ref 1000020), (1, .ref 0), (2, .ref 49), (3, .int v3), (4, .int v4), (5, .int v5), (6, .long v6), (10, .int v10)] (r.toList ++ []) I' L' Q)) : XT (50, 1188) Ln xs mL_law 293 [(0, .ref 1000020), (1, .ref 0), (2, .ref 49), (3, .int v3), (4, .int v4), (5, .int v5), (6, .long v6), (10, .int v10), (11, .int v11)] [] I L Q := by
  refine x_aload_n 1 dL_law_293 rfl rfl ?_
  refine x_iload 8 dL_law_294 rfl ?_
  refine x_sub [0, 1, 2, 3, 4, 5, 6, 7] rfl ?_
  exact xt_callV mX9_fail [.int v11] [] 0 9 1 _ rfl dL_law_296 ml_L_72 qX9_fail rfl ⟨Nat.le_of_ble_eq_true rfl, Nat.le_of_ble_eq_true rfl⟩ ⟨Nat.le_of_ble_eq_true rfl, Nat.le_of_ble_eq_true rfl⟩ ⟨rfl, rfl⟩ (Nat.le_of_ble_eq_true rfl) sh_0 (by decide) rfl (Nat.le_of_ble_eq_true rfl) (K)
theorem bL_law_299 {I : Nat → Nat → Int32} {L : Nat → Int64} {Q : Option Value → (Nat → Nat → Int32) → (Nat → Int64) → Prop} {Ln : Nat} {xs : Nat → Int32} {v3 : Int32} {v4 : Int32} {v5 : Int32} {v6 : Int64} {v10 : Int32} {s0 : Int32}  (K : XT (50, 1188) Ln xs mL_law 381 [(0, .ref 1000020), (1, .ref 0), (2, .ref 49), (3, .int v3), (4, .int v4), (5, .int v5), (6, .long v6), (10, .int v10)] [.int s0] I L Q) : XT (50, 1188) Ln xs mL_law 299 [(0, .ref 1000020), (1, .ref 0), (2, .ref 49), (3, .int v3), (4, .int v4), (5, .int v5), (6, .long v6), (10, .int v10)] [.int s0] I L Q := by
  exact x_goto 381 dL_law_299 (by decide) (K)
theorem bL_law_302 {I : Nat → Nat → Int32} {L : Nat → Int64} {Q : Option Value → (Nat → Nat → Int32) → (Nat → Int64) → Prop} {Ln : Nat} {xs : Nat → Int32} {v3 : Int32} {v4 : Int32} {v5 : Int32} {v6 : Int64} {v8 : Int32} {v10 : Int32} {v11 : Int32}  (K1 : (¬ v10 = (4 : Int32)) → XT (50, 1188) Ln xs mL_law 317 [(0, .ref 1000020), (1, .ref 0), (2, .ref 49), (3, .int v3), (4, .int v4), (5, .int v5), (6, .long v6), (8, .int v8), (10, .int v10), (11, .int v11)] [] I L Q) (K2 : (v10 = (4 : Int32)) → XT (50, 1188) Ln xs mL_law 308 [(0, .ref 1000020), (1, .ref 0), (2, .ref 49), (3, .int v3), (4, .int v4), (5, .int v5), (6, .long v6), (10, .int v10), (11, .int v11)] [] I L Q) : XT (50, 1188) Ln xs mL_law 302 [(0, .ref 1000020), (1, .ref 0), (2, .ref 49), (3, .int v3), (4, .int v4), (5, .int v5), (6, .long v6), (8, .int v8), (10, .int v10), (11, .int v11)] [] I L Q := by
  refine x_iload 8 dL_law_302 rfl ?_
  refine x_iconst (v := (4 : Int32)) dL_law_304 (by decide) ?_
  exact x_icmp_ne 317 dL_law_305 (by decide) (fun h => K1 h) (fun h => x_sub [0, 1, 2, 3, 4, 5, 6, 8, 9] rfl (K2 h))
theorem bL_law_308 {I : Nat → Nat → Int32} {L : Nat → Int64} {Q : Option Value → (Nat → Nat → Int32) → (Nat → Int64) → Prop} {Ln : Nat} {xs : Nat → Int32} {v3 : Int32} {v4 : Int32} {v5 : Int32} {v6 : Int64} {v10 : Int32} {v11 : Int32}  (K : XS mX9_heal 0 [(0, .ref 0), (1, .int v11)] [] I L (fun r I' L' => XT (50, 1188) Ln xs mL_law 314 [(0, .ref 1000020), (1, .ref 0), (2, .ref 49), (3, .int v3), (4, .int v4), (5, .int v5), (6, .long v6), (10, .int v10)] (r.toList ++ []) I' L' Q)) : XT (50, 1188) Ln xs mL_law 308 [(0, .ref 1000020), (1, .ref 0), (2, .ref 49), (3, .int v3), (4, .int v4), (5, .int v5), (6, .long v6), (10, .int v10), (11, .int v11)] [] I L Q := by
  refine x_aload_n 1 dL_law_308 rfl rfl ?_
  refine x_iload 8 dL_law_309 rfl ?_
  refine x_sub [0, 1, 2, 3, 4, 5, 6, 7] rfl ?_
  exact xt_callV mX9_heal [.int v11] [] 0 9 1 _ rfl dL_law_311 ml_L_75 qX9_heal rfl ⟨Nat.le_of_ble_eq_true rfl, Nat.le_of_ble_eq_true rfl⟩ ⟨Nat.le_of_ble_eq_true rfl, Nat.le_of_ble_eq_true rfl⟩ ⟨rfl, rfl⟩ (Nat.le_of_ble_eq_true rfl) sh_0 (by decide) rfl (Nat.le_of_ble_eq_true rfl) (K)
theorem bL_law_314 {I : Nat → Nat → Int32} {L : Nat → Int64} {Q : Option Value → (Nat → Nat → Int32) → (Nat → Int64) → Prop} {Ln : Nat} {xs : Nat → Int32} {v3 : Int32} {v4 : Int32} {v5 : Int32} {v6 : Int64} {v10 : Int32} {s0 : Int32}  (K : XT (50, 1188) Ln xs mL_law 381 [(0, .ref 1000020), (1, .ref 0), (2, .ref 49), (3, .int v3), (4, .int v4), (5, .int v5), (6, .long v6), (10, .int v10)] [.int s0] I L Q) : XT (50, 1188) Ln xs mL_law 314 [(0, .ref 1000020), (1, .ref 0), (2, .ref 49), (3, .int v3), (4, .int v4), (5, .int v5), (6, .long v6), (10, .int v10)] [.int s0] I L Q := by
  exact x_goto 381 dL_law_314 (by decide) (K)
theorem bL_law_317 {I : Nat → Nat → Int32} {L : Nat → Int64} {Q : Option Value → (Nat → Nat → Int32) → (Nat → Int64) → Prop} {Ln : Nat} {xs : Nat → Int32} {v3 : Int32} {v4 : Int32} {v5 : Int32} {v6 : Int64} {v8 : Int32} {v10 : Int32} {v11 : Int32}  (K1 : (¬ v10 = (5 : Int32)) → XT (50, 1188) Ln xs mL_law 354 [(0, .ref 1000020), (1, .ref 0), (2, .ref 49), (3, .int v3), (4, .int v4), (5, .int v5), (6, .long v6), (8, .int v8), (10, .int v10)] [] I L Q) (K2 : (v10 = (5 : Int32)) → XT (50, 1188) Ln xs mL_law 323 [(0, .ref 1000020), (1, .ref 0), (2, .ref 49), (3, .int v3), (4, .int v4), (5, .int v5), (6, .long v6), (10, .int v10), (11, .int v11)] [] I L Q) : XT (50, 1188) Ln xs mL_law 317 [(0, .ref 1000020), (1, .ref 0), (2, .ref 49), (3, .int v3), (4, .int v4), (5, .int v5), (6, .long v6), (8, .int v8), (10, .int v10), (11, .int v11)] [] I L Q := by
  refine x_iload 8 dL_law_317 rfl ?_
  refine x_iconst (v := (5 : Int32)) dL_law_319 (by decide) ?_
  exact x_icmp_ne 354 dL_law_320 (by decide) (fun h => x_sub [0, 1, 2, 3, 4, 5, 6, 7, 8] rfl (K1 h)) (fun h => x_sub [0, 1, 2, 3, 4, 5, 6, 8, 9] rfl (K2 h))
theorem bL_law_323 {I : Nat → Nat → Int32} {L : Nat → Int64} {Q : Option Value → (Nat → Nat → Int32) → (Nat → Int64) → Prop} {Ln : Nat} {xs : Nat → Int32} {v3 : Int32} {v4 : Int32} {v5 : Int32} {v6 : Int64} {v10 : Int32} {v11 : Int32}  (K : XS mL_part 0 [(0, .int (v5 >>> ((13 : Int32) &&& 31))), (1, .int (10 : Int32))] [] I L (fun r I' L' => XT (50, 1188) Ln xs mL_law 336 [(0, .ref 1000020), (1, .ref 0), (2, .ref 49), (3, .int v3), (4, .int v4), (5, .int v5), (6, .long v6), (10, .int v10)] (r.toList ++ [.int v11, .ref 0]) I' L' Q)) : XT (50, 1188) Ln xs mL_law 323 [(0, .ref 1000020), (1, .ref 0), (2, .ref 49), (3, .int v3), (4, .int v4), (5, .int v5), (6, .long v6), (10, .int v10), (11, .int v11)] [] I L Q := by
  refine x_aload_n 1 dL_law_323 rfl rfl ?_
  refine x_iload 8 dL_law_324 rfl ?_
  refine x_iload 5 dL_law_326 rfl ?_
  refine x_bipush (v := (13 : Int32)) dL_law_328 (by decide) ?_
  refine x_ishr dL_law_330 ?_
  refine x_bipush (v := (10 : Int32)) dL_law_331 (by decide) ?_
  refine x_sub [0, 1, 2, 3, 4, 5, 6, 7] rfl ?_
  exact xt_callS mL_part [.int (v5 >>> ((13 : Int32) &&& 31)), .int (10 : Int32)] [.int v11, .ref 0] 2 _ rfl dL_law_333 ml_L_15 qL_part rfl ⟨Nat.le_of_ble_eq_true rfl, Nat.le_of_ble_eq_true rfl⟩ ⟨Nat.le_of_ble_eq_true rfl, Nat.le_of_ble_eq_true rfl⟩ ⟨rfl, rfl⟩ (Nat.le_of_ble_eq_true rfl) (Nat.le_of_ble_eq_true rfl) (K)
theorem bL_law_336 {I : Nat → Nat → Int32} {L : Nat → Int64} {Q : Option Value → (Nat → Nat → Int32) → (Nat → Int64) → Prop} {Ln : Nat} {xs : Nat → Int32} {v3 : Int32} {v4 : Int32} {v5 : Int32} {v6 : Int64} {v10 : Int32} {s1 : Int32} {s2 : Int32}  (K : XS mL_part 0 [(0, .int (v5 >>> ((17 : Int32) &&& 31))), (1, .int (9 : Int32))] [] I L (fun r I' L' => XT (50, 1188) Ln xs mL_law 347 [(0, .ref 1000020), (1, .ref 0), (2, .ref 49), (3, .int v3), (4, .int v4), (5, .int v5), (6, .long v6), (10, .int v10)] (r.toList ++ [.int (1 : Int32), .int s2, .int s1, .ref 0]) I' L' Q)) : XT (50, 1188) Ln xs mL_law 336 [(0, .ref 1000020), (1, .ref 0), (2, .ref 49), (3, .int v3), (4, .int v4), (5, .int v5), (6, .long v6), (10, .int v10)] [.int s2, .int s1, .ref 0] I L Q := by
  refine x_iconst (v := (1 : Int32)) dL_law_336 (by decide) ?_
  refine x_iload 5 dL_law_337 rfl ?_
  refine x_bipush (v := (17 : Int32)) dL_law_339 (by decide) ?_
  refine x_ishr dL_law_341 ?_
  refine x_bipush (v := (9 : Int32)) dL_law_342 (by decide) ?_
  exact xt_callS mL_part [.int (v5 >>> ((17 : Int32) &&& 31)), .int (9 : Int32)] [.int (1 : Int32), .int s2, .int s1, .ref 0] 2 _ rfl dL_law_344 ml_L_15 qL_part rfl ⟨Nat.le_of_ble_eq_true rfl, Nat.le_of_ble_eq_true rfl⟩ ⟨Nat.le_of_ble_eq_true rfl, Nat.le_of_ble_eq_true rfl⟩ ⟨rfl, rfl⟩ (Nat.le_of_ble_eq_true rfl) (Nat.le_of_ble_eq_true rfl) (K)
theorem bL_law_347 {I : Nat → Nat → Int32} {L : Nat → Int64} {Q : Option Value → (Nat → Nat → Int32) → (Nat → Int64) → Prop} {Ln : Nat} {xs : Nat → Int32} {v3 : Int32} {v4 : Int32} {v5 : Int32} {v6 : Int64} {v10 : Int32} {s1 : Int32} {s2 : Int32} {s3 : Int32} {s4 : Int32}  (K : XS mX9_tune 0 [(0, .ref 0), (1, .int s1), (2, .int s2), (3, .int (s3 + s4))] [] I L (fun r I' L' => XT (50, 1188) Ln xs mL_law 351 [(0, .ref 1000020), (1, .ref 0), (2, .ref 49), (3, .int v3), (4, .int v4), (5, .int v5), (6, .long v6), (10, .int v10)] (r.toList ++ []) I' L' Q)) : XT (50, 1188) Ln xs mL_law 347 [(0, .ref 1000020), (1, .ref 0), (2, .ref 49), (3, .int v3), (4, .int v4), (5, .int v5), (6, .long v6), (10, .int v10)] [.int s4, .int s3, .int s2, .int s1, .ref 0] I L Q := by
  refine x_iadd dL_law_347 ?_
  exact xt_callV mX9_tune [.int s1, .int s2, .int (s3 + s4)] [] 0 9 3 _ rfl dL_law_348 ml_L_78 qX9_tune rfl ⟨Nat.le_of_ble_eq_true rfl, Nat.le_of_ble_eq_true rfl⟩ ⟨Nat.le_of_ble_eq_true rfl, Nat.le_of_ble_eq_true rfl⟩ ⟨rfl, rfl⟩ (Nat.le_of_ble_eq_true rfl) sh_0 (by decide) rfl (Nat.le_of_ble_eq_true rfl) (K)
theorem bL_law_351 {I : Nat → Nat → Int32} {L : Nat → Int64} {Q : Option Value → (Nat → Nat → Int32) → (Nat → Int64) → Prop} {Ln : Nat} {xs : Nat → Int32} {v3 : Int32} {v4 : Int32} {v5 : Int32} {v6 : Int64} {v10 : Int32} {s0 : Int32}  (K : XT (50, 1188) Ln xs mL_law 381 [(0, .ref 1000020), (1, .ref 0), (2, .ref 49), (3, .int v3), (4, .int v4), (5, .int v5), (6, .long v6), (10, .int v10)] [.int s0] I L Q) : XT (50, 1188) Ln xs mL_law 351 [(0, .ref 1000020), (1, .ref 0), (2, .ref 49), (3, .int v3), (4, .int v4), (5, .int v5), (6, .long v6), (10, .int v10)] [.int s0] I L Q := by
  exact x_goto 381 dL_law_351 (by decide) (K)
theorem bL_law_354 {I : Nat → Nat → Int32} {L : Nat → Int64} {Q : Option Value → (Nat → Nat → Int32) → (Nat → Int64) → Prop} {Ln : Nat} {xs : Nat → Int32} {v3 : Int32} {v4 : Int32} {v5 : Int32} {v6 : Int64} {v8 : Int32} {v10 : Int32}  (K1 : (¬ v10 = (6 : Int32)) → XT (50, 1188) Ln xs mL_law 370 [(0, .ref 1000020), (1, .ref 0), (2, .ref 49), (3, .int v3), (4, .int v4), (5, .int v5), (6, .long v6), (10, .int v10)] [] I L Q) (K2 : (v10 = (6 : Int32)) → XT (50, 1188) Ln xs mL_law 361 [(0, .ref 1000020), (1, .ref 0), (2, .ref 49), (3, .int v3), (4, .int v4), (5, .int v5), (6, .long v6), (8, .int v8), (10, .int v10)] [] I L Q) : XT (50, 1188) Ln xs mL_law 354 [(0, .ref 1000020), (1, .ref 0), (2, .ref 49), (3, .int v3), (4, .int v4), (5, .int v5), (6, .long v6), (8, .int v8), (10, .int v10)] [] I L Q := by
  refine x_iload 8 dL_law_354 rfl ?_
  refine x_bipush (v := (6 : Int32)) dL_law_356 (by decide) ?_
  exact x_icmp_ne 370 dL_law_358 (by decide) (fun h => x_sub [0, 1, 2, 3, 4, 5, 6, 8] rfl (K1 h)) (fun h => K2 h)
theorem bL_law_361 {I : Nat → Nat → Int32} {L : Nat → Int64} {Q : Option Value → (Nat → Nat → Int32) → (Nat → Int64) → Prop} {Ln : Nat} {xs : Nat → Int32} {v3 : Int32} {v4 : Int32} {v5 : Int32} {v6 : Int64} {v8 : Int32} {v10 : Int32}  (K : XS mX9_learn 0 [(0, .ref 0), (1, .int v8)] [] I L (fun r I' L' => XT (50, 1188) Ln xs mL_law 367 [(0, .ref 1000020), (1, .ref 0), (2, .ref 49), (3, .int v3), (4, .int v4), (5, .int v5), (6, .long v6), (10, .int v10)] (r.toList ++ []) I' L' Q)) : XT (50, 1188) Ln xs mL_law 361 [(0, .ref 1000020), (1, .ref 0), (2, .ref 49), (3, .int v3), (4, .int v4), (5, .int v5), (6, .long v6), (8, .int v8), (10, .int v10)] [] I L Q := by
  refine x_aload_n 1 dL_law_361 rfl rfl ?_
  refine x_iload 7 dL_law_362 rfl ?_
  refine x_sub [0, 1, 2, 3, 4, 5, 6, 8] rfl ?_
  exact xt_callV mX9_learn [.int v8] [] 0 9 1 _ rfl dL_law_364 ml_L_82 qX9_learn rfl ⟨Nat.le_of_ble_eq_true rfl, Nat.le_of_ble_eq_true rfl⟩ ⟨Nat.le_of_ble_eq_true rfl, Nat.le_of_ble_eq_true rfl⟩ ⟨rfl, rfl⟩ (Nat.le_of_ble_eq_true rfl) sh_0 (by decide) rfl (Nat.le_of_ble_eq_true rfl) (K)
theorem bL_law_367 {I : Nat → Nat → Int32} {L : Nat → Int64} {Q : Option Value → (Nat → Nat → Int32) → (Nat → Int64) → Prop} {Ln : Nat} {xs : Nat → Int32} {v3 : Int32} {v4 : Int32} {v5 : Int32} {v6 : Int64} {v10 : Int32} {s0 : Int32}  (K : XT (50, 1188) Ln xs mL_law 381 [(0, .ref 1000020), (1, .ref 0), (2, .ref 49), (3, .int v3), (4, .int v4), (5, .int v5), (6, .long v6), (10, .int v10)] [.int s0] I L Q) : XT (50, 1188) Ln xs mL_law 367 [(0, .ref 1000020), (1, .ref 0), (2, .ref 49), (3, .int v3), (4, .int v4), (5, .int v5), (6, .long v6), (10, .int v10)] [.int s0] I L Q := by
  exact x_goto 381 dL_law_367 (by decide) (K)
theorem bL_law_370 {I : Nat → Nat → Int32} {L : Nat → Int64} {Q : Option Value → (Nat → Nat → Int32) → (Nat → Int64) → Prop} {Ln : Nat} {xs : Nat → Int32} {v3 : Int32} {v4 : Int32} {v5 : Int32} {v6 : Int64} {v10 : Int32}  (K : XS mX9_protect 0 [(0, .ref 0), (1, .int ((v5 >>> ((13 : Int32) &&& 31)) &&& (1 : Int32)))] [] I L (fun r I' L' => XT (50, 1188) Ln xs mL_law 381 [(0, .ref 1000020), (1, .ref 0), (2, .ref 49), (3, .int v3), (4, .int v4), (5, .int v5), (6, .long v6), (10, .int v10)] (r.toList ++ []) I' L' Q)) : XT (50, 1188) Ln xs mL_law 370 [(0, .ref 1000020), (1, .ref 0), (2, .ref 49), (3, .int v3), (4, .int v4), (5, .int v5), (6, .long v6), (10, .int v10)] [] I L Q := by
  refine x_aload_n 1 dL_law_370 rfl rfl ?_
  refine x_iload 5 dL_law_371 rfl ?_
  refine x_bipush (v := (13 : Int32)) dL_law_373 (by decide) ?_
  refine x_ishr dL_law_375 ?_
  refine x_iconst (v := (1 : Int32)) dL_law_376 (by decide) ?_
  refine x_iand dL_law_377 ?_
  exact xt_callV mX9_protect [.int ((v5 >>> ((13 : Int32) &&& 31)) &&& (1 : Int32))] [] 0 9 1 _ rfl dL_law_378 ml_L_113 qX9_protect rfl ⟨Nat.le_of_ble_eq_true rfl, Nat.le_of_ble_eq_true rfl⟩ ⟨Nat.le_of_ble_eq_true rfl, Nat.le_of_ble_eq_true rfl⟩ ⟨rfl, rfl⟩ (Nat.le_of_ble_eq_true rfl) sh_0 (by decide) rfl (Nat.le_of_ble_eq_true rfl) (K)
theorem bL_law_381 {I : Nat → Nat → Int32} {L : Nat → Int64} {Q : Option Value → (Nat → Nat → Int32) → (Nat → Int64) → Prop} {Ln : Nat} {xs : Nat → Int32} {v3 : Int32} {v4 : Int32} {v5 : Int32} {v6 : Int64} {v10 : Int32} {s0 : Int32}  (K1 : (¬ v10 = (7 : Int32)) → XT (50, 1188) Ln xs mL_law 393 [(0, .ref 1000020), (1, .ref 0), (2, .ref 49), (3, .int v3), (4, .int v4), (5, .int v5), (6, .long v6), (12, .int s0)] [] I L Q) (K2 : (v10 = (7 : Int32)) → XT (50, 1188) Ln xs mL_law 390 [(0, .ref 1000020), (1, .ref 0), (2, .ref 49), (3, .int v3), (4, .int v4)] [] I L Q) : XT (50, 1188) Ln xs mL_law 381 [(0, .ref 1000020), (1, .ref 0), (2, .ref 49), (3, .int v3), (4, .int v4), (5, .int v5), (6, .long v6), (10, .int v10)] [.int s0] I L Q := by
  refine x_istore [(0, .ref 1000020), (1, .ref 0), (2, .ref 49), (3, .int v3), (4, .int v4), (5, .int v5), (6, .long v6), (10, .int v10), (12, .int s0)] dL_law_381 (Nat.le_of_ble_eq_true rfl) rfl ?_
  refine x_iload 7 dL_law_383 rfl ?_
  refine x_bipush (v := (7 : Int32)) dL_law_385 (by decide) ?_
  exact x_icmp_ne 393 dL_law_387 (by decide) (fun h => x_sub [0, 1, 2, 3, 4, 5, 6, 8] rfl (K1 h)) (fun h => x_sub [0, 1, 2, 3, 4] rfl (K2 h))
theorem bL_law_390 {I : Nat → Nat → Int32} {L : Nat → Int64} {Q : Option Value → (Nat → Nat → Int32) → (Nat → Int64) → Prop} {Ln : Nat} {xs : Nat → Int32} {v3 : Int32} {v4 : Int32}  (K : XT (50, 1188) Ln xs mL_law 484 [(0, .ref 1000020), (1, .ref 0), (2, .ref 49), (3, .int v3), (4, .int v4)] [] I L Q) : XT (50, 1188) Ln xs mL_law 390 [(0, .ref 1000020), (1, .ref 0), (2, .ref 49), (3, .int v3), (4, .int v4)] [] I L Q := by
  exact x_goto 484 dL_law_390 (by decide) (K)
theorem bL_law_393 {I : Nat → Nat → Int32} {L : Nat → Int64} {Q : Option Value → (Nat → Nat → Int32) → (Nat → Int64) → Prop} {Ln : Nat} {xs : Nat → Int32} {v3 : Int32} {v4 : Int32} {v5 : Int32} {v6 : Int64} {v12 : Int32}  (K1 : (0 ≤ v12) → XT (50, 1188) Ln xs mL_law 402 [(0, .ref 1000020), (1, .ref 0), (2, .ref 49), (3, .int v3), (4, .int v4), (5, .int v5), (6, .long v6), (12, .int v12)] [] I L Q) (K2 : (¬ 0 ≤ v12) → XT (50, 1188) Ln xs mL_law 398 [(0, .ref 1000020), (1, .ref 0), (2, .ref 49), (3, .int v3), (4, .int v4), (5, .int v5), (6, .long v6), (12, .int v12)] [] I L Q) : XT (50, 1188) Ln xs mL_law 393 [(0, .ref 1000020), (1, .ref 0), (2, .ref 49), (3, .int v3), (4, .int v4), (5, .int v5), (6, .long v6), (12, .int v12)] [] I L Q := by
  refine x_iload 7 dL_law_393 rfl ?_
  exact x_if_ge 402 dL_law_395 (by decide) (fun h => K1 h) (fun h => K2 h)
theorem bL_law_398 {I : Nat → Nat → Int32} {L : Nat → Int64} {Q : Option Value → (Nat → Nat → Int32) → (Nat → Int64) → Prop} {Ln : Nat} {xs : Nat → Int32} {v3 : Int32} {v4 : Int32} {v5 : Int32} {v6 : Int64} {v12 : Int32}  (K : XT (50, 1188) Ln xs mL_law 416 [(0, .ref 1000020), (1, .ref 0), (2, .ref 49), (4, .int v4), (5, .int v5), (6, .long v6), (12, .int v12)] [.int v3] I L Q) : XT (50, 1188) Ln xs mL_law 398 [(0, .ref 1000020), (1, .ref 0), (2, .ref 49), (3, .int v3), (4, .int v4), (5, .int v5), (6, .long v6), (12, .int v12)] [] I L Q := by
  refine x_iload_n 3 dL_law_398 rfl rfl ?_
  exact x_goto 416 dL_law_399 (by decide) (x_sub [0, 1, 2, 4, 5, 6, 7] rfl (K))
theorem bL_law_402 {I : Nat → Nat → Int32} {L : Nat → Int64} {Q : Option Value → (Nat → Nat → Int32) → (Nat → Int64) → Prop} {Ln : Nat} {xs : Nat → Int32} {v3 : Int32} {v4 : Int32} {v5 : Int32} {v6 : Int64} {v12 : Int32}  (K1 : ((8 : Int32) ≤ v3) → XT (50, 1188) Ln xs mL_law 414 [(0, .ref 1000020), (1, .ref 0), (2, .ref 49), (4, .int v4), (5, .int v5), (6, .long v6), (12, .int v12)] [] I L Q) (K2 : (¬ (8 : Int32) ≤ v3) → XT (50, 1188) Ln xs mL_law 408 [(0, .ref 1000020), (1, .ref 0), (2, .ref 49), (3, .int v3), (4, .int v4), (5, .int v5), (6, .long v6), (12, .int v12)] [] I L Q) : XT (50, 1188) Ln xs mL_law 402 [(0, .ref 1000020), (1, .ref 0), (2, .ref 49), (3, .int v3), (4, .int v4), (5, .int v5), (6, .long v6), (12, .int v12)] [] I L Q := by
  refine x_iload_n 3 dL_law_402 rfl rfl ?_
  refine x_bipush (v := (8 : Int32)) dL_law_403 (by decide) ?_
  exact x_icmp_ge 414 dL_law_405 (by decide) (fun h => x_sub [0, 1, 2, 4, 5, 6, 7] rfl (K1 h)) (fun h => K2 h)
theorem bL_law_408 {I : Nat → Nat → Int32} {L : Nat → Int64} {Q : Option Value → (Nat → Nat → Int32) → (Nat → Int64) → Prop} {Ln : Nat} {xs : Nat → Int32} {v3 : Int32} {v4 : Int32} {v5 : Int32} {v6 : Int64} {v12 : Int32}  (K : XT (50, 1188) Ln xs mL_law 416 [(0, .ref 1000020), (1, .ref 0), (2, .ref 49), (4, .int v4), (5, .int v5), (6, .long v6), (12, .int v12)] [.int (v3 + (1 : Int32))] I L Q) : XT (50, 1188) Ln xs mL_law 408 [(0, .ref 1000020), (1, .ref 0), (2, .ref 49), (3, .int v3), (4, .int v4), (5, .int v5), (6, .long v6), (12, .int v12)] [] I L Q := by
  refine x_iload_n 3 dL_law_408 rfl rfl ?_
  refine x_iconst (v := (1 : Int32)) dL_law_409 (by decide) ?_
  refine x_iadd dL_law_410 ?_
  exact x_goto 416 dL_law_411 (by decide) (x_sub [0, 1, 2, 4, 5, 6, 7] rfl (K))
theorem bL_law_414 {I : Nat → Nat → Int32} {L : Nat → Int64} {Q : Option Value → (Nat → Nat → Int32) → (Nat → Int64) → Prop} {Ln : Nat} {xs : Nat → Int32} {v4 : Int32} {v5 : Int32} {v6 : Int64} {v12 : Int32}  (K : XT (50, 1188) Ln xs mL_law 416 [(0, .ref 1000020), (1, .ref 0), (2, .ref 49), (4, .int v4), (5, .int v5), (6, .long v6), (12, .int v12)] [.int (8 : Int32)] I L Q) : XT (50, 1188) Ln xs mL_law 414 [(0, .ref 1000020), (1, .ref 0), (2, .ref 49), (4, .int v4), (5, .int v5), (6, .long v6), (12, .int v12)] [] I L Q := by
  refine x_bipush (v := (8 : Int32)) dL_law_414 (by decide) ?_
  exact K
theorem bL_law_416 {I : Nat → Nat → Int32} {L : Nat → Int64} {Q : Option Value → (Nat → Nat → Int32) → (Nat → Int64) → Prop} {Ln : Nat} {xs : Nat → Int32} {v4 : Int32} {v5 : Int32} {v6 : Int64} {v12 : Int32} {s0 : Int32}  (K : XS mX9_count 0 [(0, .ref 0), (1, .int (11 : Int32))] [] I L (fun r I' L' => XT (50, 1188) Ln xs mL_law 423 [(0, .ref 1000020), (1, .ref 0), (2, .ref 49), (3, .int s0), (4, .int v4), (5, .int v5), (6, .long v6), (12, .int v12)] (r.toList ++ []) I' L' Q)) : XT (50, 1188) Ln xs mL_law 416 [(0, .ref 1000020), (1, .ref 0), (2, .ref 49), (4, .int v4), (5, .int v5), (6, .long v6), (12, .int v12)] [.int s0] I L Q := by
  refine x_istore_n [(0, .ref 1000020), (1, .ref 0), (2, .ref 49), (3, .int s0), (4, .int v4), (5, .int v5), (6, .long v6), (12, .int v12)] dL_law_416 rfl (Nat.le_of_ble_eq_true rfl) rfl ?_
  refine x_aload_n 1 dL_law_417 rfl rfl ?_
  refine x_bipush (v := (11 : Int32)) dL_law_418 (by decide) ?_
  exact xt_callV mX9_count [.int (11 : Int32)] [] 0 9 1 _ rfl dL_law_420 ml_L_39 qX9_count rfl ⟨Nat.le_of_ble_eq_true rfl, Nat.le_of_ble_eq_true rfl⟩ ⟨Nat.le_of_ble_eq_true rfl, Nat.le_of_ble_eq_true rfl⟩ ⟨rfl, rfl⟩ (Nat.le_of_ble_eq_true rfl) sh_0 (by decide) rfl (Nat.le_of_ble_eq_true rfl) (K)
theorem bL_law_423 {I : Nat → Nat → Int32} {L : Nat → Int64} {Q : Option Value → (Nat → Nat → Int32) → (Nat → Int64) → Prop} {Ln : Nat} {xs : Nat → Int32} {v3 : Int32} {v4 : Int32} {v5 : Int32} {v6 : Int64} {v12 : Int32} {s0 : Int32}  (K1 : (¬ s0 = v3) → XT (50, 1188) Ln xs mL_law 442 [] [] I L Q) (K2 : (s0 = v3) → XT (50, 1188) Ln xs mL_law 427 [(0, .ref 1000020), (1, .ref 0), (2, .ref 49), (3, .int v3), (4, .int v4), (5, .int v5), (6, .long v6), (12, .int v12)] [] I L Q) : XT (50, 1188) Ln xs mL_law 423 [(0, .ref 1000020), (1, .ref 0), (2, .ref 49), (3, .int v3), (4, .int v4), (5, .int v5), (6, .long v6), (12, .int v12)] [.int s0] I L Q := by
  refine x_iload_n 3 dL_law_423 rfl rfl ?_
  exact x_icmp_ne 442 dL_law_424 (by decide) (fun h => x_sub [] rfl (K1 h)) (fun h => K2 h)
theorem bL_law_427 {I : Nat → Nat → Int32} {L : Nat → Int64} {Q : Option Value → (Nat → Nat → Int32) → (Nat → Int64) → Prop} {Ln : Nat} {xs : Nat → Int32} {v3 : Int32} {v4 : Int32} {v5 : Int32} {v6 : Int64} {v12 : Int32}  (K1 : (0 ≤ v12) → XT (50, 1188) Ln xs mL_law 444 [(0, .ref 1000020), (1, .ref 0), (2, .ref 49), (3, .int v3), (4, .int v4), (5, .int v5), (6, .long v6), (12, .int v12)] [] I L Q) (K2 : (¬ 0 ≤ v12) → XT (50, 1188) Ln xs mL_law 432 [(0, .ref 1000020), (1, .ref 0), (2, .ref 49), (3, .int v3), (4, .int v4), (5, .int v5), (6, .long v6), (12, .int v12)] [] I L Q) : XT (50, 1188) Ln xs mL_law 427 [(0, .ref 1000020), (1, .ref 0), (2, .ref 49), (3, .int v3), (4, .int v4), (5, .int v5), (6, .long v6), (12, .int v12)] [] I L Q := by
  refine x_iload 7 dL_law_427 rfl ?_
  exact x_if_ge 444 dL_law_429 (by decide) (fun h => K1 h) (fun h => K2 h)
theorem bL_law_432 {I : Nat → Nat → Int32} {L : Nat → Int64} {Q : Option Value → (Nat → Nat → Int32) → (Nat → Int64) → Prop} {Ln : Nat} {xs : Nat → Int32} {v3 : Int32} {v4 : Int32} {v5 : Int32} {v6 : Int64} {v12 : Int32}  (K : XS mL_whole 0 [(0, .ref 0)] [] I L (fun r I' L' => XT (50, 1188) Ln xs mL_law 436 [(0, .ref 1000020), (1, .ref 0), (2, .ref 49), (3, .int v3), (4, .int v4), (5, .int v5), (6, .long v6), (12, .int v12)] (r.toList ++ []) I' L' Q)) : XT (50, 1188) Ln xs mL_law 432 [(0, .ref 1000020), (1, .ref 0), (2, .ref 49), (3, .int v3), (4, .int v4), (5, .int v5), (6, .long v6), (12, .int v12)] [] I L Q := by
  refine x_aload_n 1 dL_law_432 rfl rfl ?_
  exact xt_callS mL_whole [.ref 0] [] 1 _ rfl dL_law_433 ml_L_68 qL_whole rfl ⟨Nat.le_of_ble_eq_true rfl, Nat.le_of_ble_eq_true rfl⟩ ⟨Nat.le_of_ble_eq_true rfl, Nat.le_of_ble_eq_true rfl⟩ ⟨rfl, rfl⟩ (Nat.le_of_ble_eq_true rfl) (Nat.le_of_ble_eq_true rfl) (K)
theorem bL_law_436 {I : Nat → Nat → Int32} {L : Nat → Int64} {Q : Option Value → (Nat → Nat → Int32) → (Nat → Int64) → Prop} {Ln : Nat} {xs : Nat → Int32} {v3 : Int32} {v4 : Int32} {v5 : Int32} {v6 : Int64} {v12 : Int32} {s0 : Int64}  (K1 : ((lg_cmp s0 v6) = 0) → XT (50, 1188) Ln xs mL_law 444 [(0, .ref 1000020), (1, .ref 0), (2, .ref 49), (3, .int v3), (4, .int v4), (5, .int v5), (6, .long v6), (12, .int v12)] [] I L Q) (K2 : (¬ (lg_cmp s0 v6) = 0) → XT (50, 1188) Ln xs mL_law 442 [] [] I L Q) : XT (50, 1188) Ln xs mL_law 436 [(0, .ref 1000020), (1, .ref 0), (2, .ref 49), (3, .int v3), (4, .int v4), (5, .int v5), (6, .long v6), (12, .int v12)] [.long s0] I L Q := by
  refine x_lload 6 dL_law_436 rfl ?_
  refine x_lcmp dL_law_438 ?_
  exact x_if_eq 444 dL_law_439 (by decide) (fun h => K1 h) (fun h => x_sub [] rfl (K2 h))
theorem bL_law_442 {I : Nat → Nat → Int32} {L : Nat → Int64} {Q : Option Value → (Nat → Nat → Int32) → (Nat → Int64) → Prop} {Ln : Nat} {xs : Nat → Int32}   (K : Q (some (.int (0 : Int32))) I L) : XT (50, 1188) Ln xs mL_law 442 [] [] I L Q := by
  refine x_iconst (v := (0 : Int32)) dL_law_442 (by decide) ?_
  exact xt_iret dL_law_443 rfl (x_nar _ (Or.inl rfl)) K
theorem bL_law_444 {I : Nat → Nat → Int32} {L : Nat → Int64} {Q : Option Value → (Nat → Nat → Int32) → (Nat → Int64) → Prop} {Ln : Nat} {xs : Nat → Int32} {v3 : Int32} {v4 : Int32} {v5 : Int32} {v6 : Int64} {v12 : Int32}  (K1 : (v12 < 0) → XT (50, 1188) Ln xs mL_law 484 [(0, .ref 1000020), (1, .ref 0), (2, .ref 49), (3, .int v3), (4, .int v4)] [] I L Q) (K2 : (¬ v12 < 0) → XT (50, 1188) Ln xs mL_law 449 [(0, .ref 1000020), (1, .ref 0), (2, .ref 49), (3, .int v3), (4, .int v4), (5, .int v5), (6, .long v6)] [] I L Q) : XT (50, 1188) Ln xs mL_law 444 [(0, .ref 1000020), (1, .ref 0), (2, .ref 49), (3, .int v3), (4, .int v4), (5, .int v5), (6, .long v6), (12, .int v12)] [] I L Q := by
  refine x_iload 7 dL_law_444 rfl ?_
  exact x_if_lt 484 dL_law_446 (by decide) (fun h => x_sub [0, 1, 2, 3, 4] rfl (K1 h)) (fun h => x_sub [0, 1, 2, 3, 4, 5, 6] rfl (K2 h))
theorem bL_law_449 {I : Nat → Nat → Int32} {L : Nat → Int64} {Q : Option Value → (Nat → Nat → Int32) → (Nat → Int64) → Prop} {Ln : Nat} {xs : Nat → Int32} {v3 : Int32} {v4 : Int32} {v5 : Int32} {v6 : Int64}  (K : XS mL_part 0 [(0, .int (v5 >>> ((20 : Int32) &&& 31))), (1, .int (3 : Int32))] [] I L (fun r I' L' => XT (50, 1188) Ln xs mL_law 458 [(0, .ref 1000020), (1, .ref 0), (2, .ref 49), (3, .int v3), (4, .int v4), (6, .long v6)] (r.toList ++ []) I' L' Q)) : XT (50, 1188) Ln xs mL_law 449 [(0, .ref 1000020), (1, .ref 0), (2, .ref 49), (3, .int v3), (4, .int v4), (5, .int v5), (6, .long v6)] [] I L Q := by
  refine x_iload 5 dL_law_449 rfl ?_
  refine x_bipush (v := (20 : Int32)) dL_law_451 (by decide) ?_
  refine x_ishr dL_law_453 ?_
  refine x_iconst (v := (3 : Int32)) dL_law_454 (by decide) ?_
  refine x_sub [0, 1, 2, 3, 4, 6] rfl ?_
  exact xt_callS mL_part [.int (v5 >>> ((20 : Int32) &&& 31)), .int (3 : Int32)] [] 2 _ rfl dL_law_455 ml_L_15 qL_part rfl ⟨Nat.le_of_ble_eq_true rfl, Nat.le_of_ble_eq_true rfl⟩ ⟨Nat.le_of_ble_eq_true rfl, Nat.le_of_ble_eq_true rfl⟩ ⟨rfl, rfl⟩ (Nat.le_of_ble_eq_true rfl) (Nat.le_of_ble_eq_true rfl) (K)
theorem bL_law_458 {I : Nat → Nat → Int32} {L : Nat → Int64} {Q : Option Value → (Nat → Nat → Int32) → (Nat → Int64) → Prop} {Ln : Nat} {xs : Nat → Int32} {v3 : Int32} {v4 : Int32} {v6 : Int64} {s0 : Int32}  (K1 : (¬ s0 = 0) → XT (50, 1188) Ln xs mL_law 484 [(0, .ref 1000020), (1, .ref 0), (2, .ref 49), (3, .int v3), (4, .int v4)] [] I L Q) (K2 : (s0 = 0) → XT (50, 1188) Ln xs mL_law 461 [(0, .ref 1000020), (1, .ref 0), (2, .ref 49), (3, .int v3), (4, .int v4), (6, .long v6)] [] I L Q) : XT (50, 1188) Ln xs mL_law 458 [(0, .ref 1000020), (1, .ref 0), (2, .ref 49), (3, .int v3), (4, .int v4), (6, .long v6)] [.int s0] I L Q := by
  exact x_if_ne 484 dL_law_458 (by decide) (fun h => x_sub [0, 1, 2, 3, 4] rfl (K1 h)) (fun h => K2 h)
theorem bL_law_461 {I : Nat → Nat → Int32} {L : Nat → Int64} {Q : Option Value → (Nat → Nat → Int32) → (Nat → Int64) → Prop} {Ln : Nat} {xs : Nat → Int32} {v3 : Int32} {v4 : Int32} {v6 : Int64}  (K : XS mX9_undo 0 [(0, .ref 0)] [] I L (fun r I' L' => XT (50, 1188) Ln xs mL_law 468 [(0, .ref 1000020), (1, .ref 0), (2, .ref 49), (3, .int (v3 + (-1 : Int32))), (4, .int v4), (6, .long v6)] (r.toList ++ []) I' L' Q)) : XT (50, 1188) Ln xs mL_law 461 [(0, .ref 1000020), (1, .ref 0), (2, .ref 49), (3, .int v3), (4, .int v4), (6, .long v6)] [] I L Q := by
  refine x_iinc 3 (v3 + (-1 : Int32)) [(0, .ref 1000020), (1, .ref 0), (2, .ref 49), (3, .int (v3 + (-1 : Int32))), (4, .int v4), (6, .long v6)] dL_law_461 rfl rfl (Nat.le_of_ble_eq_true rfl) rfl ?_
  refine x_aload_n 1 dL_law_464 rfl rfl ?_
  exact xt_callV mX9_undo [] [] 0 9 0 _ rfl dL_law_465 ml_L_126 qX9_undo rfl ⟨Nat.le_of_ble_eq_true rfl, Nat.le_of_ble_eq_true rfl⟩ ⟨Nat.le_of_ble_eq_true rfl, Nat.le_of_ble_eq_true rfl⟩ ⟨rfl, rfl⟩ (Nat.le_of_ble_eq_true rfl) sh_0 (by decide) rfl (Nat.le_of_ble_eq_true rfl) (K)
theorem bL_law_468 {I : Nat → Nat → Int32} {L : Nat → Int64} {Q : Option Value → (Nat → Nat → Int32) → (Nat → Int64) → Prop} {Ln : Nat} {xs : Nat → Int32} {v3 : Int32} {v4 : Int32} {v6 : Int64} {s0 : Int32}  (K1 : (¬ s0 = v3) → XT (50, 1188) Ln xs mL_law 482 [] [] I L Q) (K2 : (s0 = v3) → XT (50, 1188) Ln xs mL_law 472 [(0, .ref 1000020), (1, .ref 0), (2, .ref 49), (3, .int v3), (4, .int v4), (6, .long v6)] [] I L Q) : XT (50, 1188) Ln xs mL_law 468 [(0, .ref 1000020), (1, .ref 0), (2, .ref 49), (3, .int v3), (4, .int v4), (6, .long v6)] [.int s0] I L Q := by
  refine x_iload_n 3 dL_law_468 rfl rfl ?_
  exact x_icmp_ne 482 dL_law_469 (by decide) (fun h => x_sub [] rfl (K1 h)) (fun h => K2 h)
theorem bL_law_472 {I : Nat → Nat → Int32} {L : Nat → Int64} {Q : Option Value → (Nat → Nat → Int32) → (Nat → Int64) → Prop} {Ln : Nat} {xs : Nat → Int32} {v3 : Int32} {v4 : Int32} {v6 : Int64}  (K : XS mL_whole 0 [(0, .ref 0)] [] I L (fun r I' L' => XT (50, 1188) Ln xs mL_law 476 [(0, .ref 1000020), (1, .ref 0), (2, .ref 49), (3, .int v3), (4, .int v4), (6, .long v6)] (r.toList ++ []) I' L' Q)) : XT (50, 1188) Ln xs mL_law 472 [(0, .ref 1000020), (1, .ref 0), (2, .ref 49), (3, .int v3), (4, .int v4), (6, .long v6)] [] I L Q := by
  refine x_aload_n 1 dL_law_472 rfl rfl ?_
  exact xt_callS mL_whole [.ref 0] [] 1 _ rfl dL_law_473 ml_L_68 qL_whole rfl ⟨Nat.le_of_ble_eq_true rfl, Nat.le_of_ble_eq_true rfl⟩ ⟨Nat.le_of_ble_eq_true rfl, Nat.le_of_ble_eq_true rfl⟩ ⟨rfl, rfl⟩ (Nat.le_of_ble_eq_true rfl) (Nat.le_of_ble_eq_true rfl) (K)
theorem bL_law_476 {I : Nat → Nat → Int32} {L : Nat → Int64} {Q : Option Value → (Nat → Nat → Int32) → (Nat → Int64) → Prop} {Ln : Nat} {xs : Nat → Int32} {v3 : Int32} {v4 : Int32} {v6 : Int64} {s0 : Int64}  (K1 : ((lg_cmp s0 v6) = 0) → XT (50, 1188) Ln xs mL_law 484 [(0, .ref 1000020), (1, .ref 0), (2, .ref 49), (3, .int v3), (4, .int v4)] [] I L Q) (K2 : (¬ (lg_cmp s0 v6) = 0) → XT (50, 1188) Ln xs mL_law 482 [] [] I L Q) : XT (50, 1188) Ln xs mL_law 476 [(0, .ref 1000020), (1, .ref 0), (2, .ref 49), (3, .int v3), (4, .int v4), (6, .long v6)] [.long s0] I L Q := by
  refine x_lload 5 dL_law_476 rfl ?_
  refine x_lcmp dL_law_478 ?_
  exact x_if_eq 484 dL_law_479 (by decide) (fun h => x_sub [0, 1, 2, 3, 4] rfl (K1 h)) (fun h => x_sub [] rfl (K2 h))
theorem bL_law_482 {I : Nat → Nat → Int32} {L : Nat → Int64} {Q : Option Value → (Nat → Nat → Int32) → (Nat → Int64) → Prop} {Ln : Nat} {xs : Nat → Int32}   (K : Q (some (.int (0 : Int32))) I L) : XT (50, 1188) Ln xs mL_law 482 [] [] I L Q := by
  refine x_iconst (v := (0 : Int32)) dL_law_482 (by decide) ?_
  exact xt_iret dL_law_483 rfl (x_nar _ (Or.inl rfl)) K
theorem bL_law_484 {I : Nat → Nat → Int32} {L : Nat → Int64} {Q : Option Value → (Nat → Nat → Int32) → (Nat → Int64) → Prop} {Ln : Nat} {xs : Nat → Int32} {v3 : Int32} {v4 : Int32}  (K : XT (50, 1188) Ln xs mL_law 69 [(0, .ref 1000020), (1, .ref 0), (2, .ref 49), (3, .int v3), (4, .int (v4 + (1 : Int32)))] [] I L Q) : XT (50, 1188) Ln xs mL_law 484 [(0, .ref 1000020), (1, .ref 0), (2, .ref 49), (3, .int v3), (4, .int v4)] [] I L Q := by
  refine x_iinc 4 (v4 + (1 : Int32)) [(0, .ref 1000020), (1, .ref 0), (2, .ref 49), (3, .int v3), (4, .int (v4 + (1 : Int32)))] dL_law_484 rfl rfl (Nat.le_of_ble_eq_true rfl) rfl ?_
  exact x_goto 69 dL_law_487 (by decide) (K)
theorem bL_law_490 {I : Nat → Nat → Int32} {L : Nat → Int64} {Q : Option Value → (Nat → Nat → Int32) → (Nat → Int64) → Prop} {Ln : Nat} {xs : Nat → Int32}   (K : XS mL_refused 0 [(0, .ref 0)] [] I L (fun r I' L' => XT (50, 1188) Ln xs mL_law 494 [(0, .ref 1000020), (1, .ref 0), (2, .ref 49)] (r.toList ++ []) I' L' Q)) : XT (50, 1188) Ln xs mL_law 490 [(0, .ref 1000020), (1, .ref 0), (2, .ref 49)] [] I L Q := by
  refine x_aload_n 1 dL_law_490 rfl rfl ?_
  exact xt_callS mL_refused [.ref 0] [] 1 _ rfl dL_law_491 ml_L_133 qL_refused rfl ⟨Nat.le_of_ble_eq_true rfl, Nat.le_of_ble_eq_true rfl⟩ ⟨Nat.le_of_ble_eq_true rfl, Nat.le_of_ble_eq_true rfl⟩ ⟨rfl, rfl⟩ (Nat.le_of_ble_eq_true rfl) (Nat.le_of_ble_eq_true rfl) (K)
theorem bL_law_494 {I : Nat → Nat → Int32} {L : Nat → Int64} {Q : Option Value → (Nat → Nat → Int32) → (Nat → Int64) → Prop} {Ln : Nat} {xs : Nat → Int32} {s0 : Int32}  (K1 : (s0 = 0) → XT (50, 1188) Ln xs mL_law 533 [] [] I L Q) (K2 : (¬ s0 = 0) → XT (50, 1188) Ln xs mL_law 497 [(0, .ref 1000020), (1, .ref 0), (2, .ref 49)] [] I L Q) : XT (50, 1188) Ln xs mL_law 494 [(0, .ref 1000020), (1, .ref 0), (2, .ref 49)] [.int s0] I L Q := by
  exact x_if_eq 533 dL_law_494 (by decide) (fun h => x_sub [] rfl (K1 h)) (fun h => K2 h)
theorem bL_law_497 {I : Nat → Nat → Int32} {L : Nat → Int64} {Q : Option Value → (Nat → Nat → Int32) → (Nat → Int64) → Prop} {Ln : Nat} {xs : Nat → Int32}   (K : XS mL_faults 0 [(0, .ref 0)] [] I L (fun r I' L' => XT (50, 1188) Ln xs mL_law 501 [(0, .ref 1000020), (1, .ref 0), (2, .ref 49)] (r.toList ++ []) I' L' Q)) : XT (50, 1188) Ln xs mL_law 497 [(0, .ref 1000020), (1, .ref 0), (2, .ref 49)] [] I L Q := by
  refine x_aload_n 1 dL_law_497 rfl rfl ?_
  exact xt_callS mL_faults [.ref 0] [] 1 _ rfl dL_law_498 ml_L_129 qL_faults rfl ⟨Nat.le_of_ble_eq_true rfl, Nat.le_of_ble_eq_true rfl⟩ ⟨Nat.le_of_ble_eq_true rfl, Nat.le_of_ble_eq_true rfl⟩ ⟨rfl, rfl⟩ (Nat.le_of_ble_eq_true rfl) (Nat.le_of_ble_eq_true rfl) (K)
theorem bL_law_501 {I : Nat → Nat → Int32} {L : Nat → Int64} {Q : Option Value → (Nat → Nat → Int32) → (Nat → Int64) → Prop} {Ln : Nat} {xs : Nat → Int32} {s0 : Int32}  (K1 : (s0 = 0) → XT (50, 1188) Ln xs mL_law 533 [] [] I L Q) (K2 : (¬ s0 = 0) → XT (50, 1188) Ln xs mL_law 504 [(0, .ref 1000020), (1, .ref 0), (2, .ref 49)] [] I L Q) : XT (50, 1188) Ln xs mL_law 501 [(0, .ref 1000020), (1, .ref 0), (2, .ref 49)] [.int s0] I L Q := by
  exact x_if_eq 533 dL_law_501 (by decide) (fun h => x_sub [] rfl (K1 h)) (fun h => K2 h)
theorem bL_law_504 {I : Nat → Nat → Int32} {L : Nat → Int64} {Q : Option Value → (Nat → Nat → Int32) → (Nat → Int64) → Prop} {Ln : Nat} {xs : Nat → Int32}   (K : XT (0, 0) Ln xs mL_cell 0 [(0, .ref 1000020), (1, .int (30 : Int32))] [] I L (fun r I' L' => XT (50, 1188) Ln xs mL_law 512 [(0, .ref 1000020), (1, .ref 0), (2, .ref 49)] (r.toList ++ [.ref 49, .ref 0]) I' L' Q)) : XT (50, 1188) Ln xs mL_law 504 [(0, .ref 1000020), (1, .ref 0), (2, .ref 49)] [] I L Q := by
  refine x_aload_n 1 dL_law_504 rfl rfl ?_
  refine x_aload_n 2 dL_law_505 rfl rfl ?_
  refine x_aload_n 0 dL_law_506 rfl rfl ?_
  refine x_bipush (v := (30 : Int32)) dL_law_507 (by decide) ?_
  exact xt_callSS mL_cell [.ref 1000020, .int (30 : Int32)] [.ref 49, .ref 0] 2 _ rfl dL_law_509 ml_L_9 qL_cell rfl ⟨Nat.le_of_ble_eq_true rfl, Nat.le_of_ble_eq_true rfl⟩ ⟨Nat.le_of_ble_eq_true rfl, Nat.le_of_ble_eq_true rfl⟩ ⟨rfl, rfl⟩ (Nat.le_of_ble_eq_true rfl) (Nat.le_of_ble_eq_true rfl) (K)
theorem bL_law_512 {I : Nat → Nat → Int32} {L : Nat → Int64} {Q : Option Value → (Nat → Nat → Int32) → (Nat → Int64) → Prop} {Ln : Nat} {xs : Nat → Int32} {s2 : Int32}  (K : XS mL_part 0 [(0, .int s2), (1, .int (I 3136 0))] [] I L (fun r I' L' => XT (50, 1188) Ln xs mL_law 518 [(0, .ref 1000020), (1, .ref 0), (2, .ref 49)] (r.toList ++ [.ref 49, .ref 0]) I' L' Q)) : XT (50, 1188) Ln xs mL_law 512 [(0, .ref 1000020), (1, .ref 0), (2, .ref 49)] [.int s2, .ref 49, .ref 0] I L Q := by
  refine x_aload_n 2 dL_law_512 rfl rfl ?_
  refine x_iconst (v := (0 : Int32)) dL_law_513 (by decide) ?_
  refine xt_iald 3136 (0) dL_law_514 sh_49 rfl (by decide) (x_vpin (by decide)) ?_
  exact xt_callS mL_part [.int s2, .int (I 3136 0)] [.ref 49, .ref 0] 2 _ rfl dL_law_515 ml_L_15 qL_part rfl ⟨Nat.le_of_ble_eq_true rfl, Nat.le_of_ble_eq_true rfl⟩ ⟨Nat.le_of_ble_eq_true rfl, Nat.le_of_ble_eq_true rfl⟩ ⟨rfl, rfl⟩ (Nat.le_of_ble_eq_true rfl) (Nat.le_of_ble_eq_true rfl) (K)
theorem bL_law_518 {I : Nat → Nat → Int32} {L : Nat → Int64} {Q : Option Value → (Nat → Nat → Int32) → (Nat → Int64) → Prop} {Ln : Nat} {xs : Nat → Int32} {s2 : Int32}  (K : XS mL_goes 0 [(0, .ref 0), (1, .ref 49), (2, .int s2)] [] I L (fun r I' L' => XT (50, 1188) Ln xs mL_law 521 [(0, .ref 1000020), (1, .ref 0), (2, .ref 49)] (r.toList ++ []) I' L' Q)) : XT (50, 1188) Ln xs mL_law 518 [(0, .ref 1000020), (1, .ref 0), (2, .ref 49)] [.int s2, .ref 49, .ref 0] I L Q := by
  exact xt_callS mL_goes [.ref 0, .ref 49, .int s2] [] 3 _ rfl dL_law_518 ml_L_143 qL_goes rfl ⟨Nat.le_of_ble_eq_true rfl, Nat.le_of_ble_eq_true rfl⟩ ⟨Nat.le_of_ble_eq_true rfl, Nat.le_of_ble_eq_true rfl⟩ ⟨rfl, rfl⟩ (Nat.le_of_ble_eq_true rfl) (Nat.le_of_ble_eq_true rfl) (K)
theorem bL_law_521 {I : Nat → Nat → Int32} {L : Nat → Int64} {Q : Option Value → (Nat → Nat → Int32) → (Nat → Int64) → Prop} {Ln : Nat} {xs : Nat → Int32} {s0 : Int32}  (K1 : (s0 = 0) → XT (50, 1188) Ln xs mL_law 533 [] [] I L Q) (K2 : (¬ s0 = 0) → XT (50, 1188) Ln xs mL_law 524 [(0, .ref 1000020), (1, .ref 0), (2, .ref 49)] [] I L Q) : XT (50, 1188) Ln xs mL_law 521 [(0, .ref 1000020), (1, .ref 0), (2, .ref 49)] [.int s0] I L Q := by
  exact x_if_eq 533 dL_law_521 (by decide) (fun h => x_sub [] rfl (K1 h)) (fun h => K2 h)
theorem bL_law_524 {I : Nat → Nat → Int32} {L : Nat → Int64} {Q : Option Value → (Nat → Nat → Int32) → (Nat → Int64) → Prop} {Ln : Nat} {xs : Nat → Int32}   (K : XS mL_goes 0 [(0, .ref 0), (1, .ref 49), (2, .int (0 : Int32))] [] I L (fun r I' L' => XT (50, 1188) Ln xs mL_law 530 [(0, .ref 1000020), (1, .ref 0), (2, .ref 49)] (r.toList ++ []) I' L' Q)) : XT (50, 1188) Ln xs mL_law 524 [(0, .ref 1000020), (1, .ref 0), (2, .ref 49)] [] I L Q := by
  refine x_aload_n 1 dL_law_524 rfl rfl ?_
  refine x_aload_n 2 dL_law_525 rfl rfl ?_
  refine x_iconst (v := (0 : Int32)) dL_law_526 (by decide) ?_
  exact xt_callS mL_goes [.ref 0, .ref 49, .int (0 : Int32)] [] 3 _ rfl dL_law_527 ml_L_143 qL_goes rfl ⟨Nat.le_of_ble_eq_true rfl, Nat.le_of_ble_eq_true rfl⟩ ⟨Nat.le_of_ble_eq_true rfl, Nat.le_of_ble_eq_true rfl⟩ ⟨rfl, rfl⟩ (Nat.le_of_ble_eq_true rfl) (Nat.le_of_ble_eq_true rfl) (K)
theorem bL_law_530 {I : Nat → Nat → Int32} {L : Nat → Int64} {Q : Option Value → (Nat → Nat → Int32) → (Nat → Int64) → Prop} {Ln : Nat} {xs : Nat → Int32} {s0 : Int32}  (K1 : (¬ s0 = 0) → XT (50, 1188) Ln xs mL_law 535 [(0, .ref 1000020), (1, .ref 0), (2, .ref 49)] [] I L Q) (K2 : (s0 = 0) → XT (50, 1188) Ln xs mL_law 533 [] [] I L Q) : XT (50, 1188) Ln xs mL_law 530 [(0, .ref 1000020), (1, .ref 0), (2, .ref 49)] [.int s0] I L Q := by
  exact x_if_ne 535 dL_law_530 (by decide) (fun h => K1 h) (fun h => x_sub [] rfl (K2 h))
theorem bL_law_533 {I : Nat → Nat → Int32} {L : Nat → Int64} {Q : Option Value → (Nat → Nat → Int32) → (Nat → Int64) → Prop} {Ln : Nat} {xs : Nat → Int32}   (K : Q (some (.int (0 : Int32))) I L) : XT (50, 1188) Ln xs mL_law 533 [] [] I L Q := by
  refine x_iconst (v := (0 : Int32)) dL_law_533 (by decide) ?_
  exact xt_iret dL_law_534 rfl (x_nar _ (Or.inl rfl)) K
theorem bL_law_535 {I : Nat → Nat → Int32} {L : Nat → Int64} {Q : Option Value → (Nat → Nat → Int32) → (Nat → Int64) → Prop} {Ln : Nat} {xs : Nat → Int32}   (K : XS mX9_order 0 [(0, .ref 0), (1, .int (-1 : Int32))] [] I L (fun r I' L' => XT (50, 1188) Ln xs mL_law 540 [(0, .ref 1000020), (1, .ref 0), (2, .ref 49)] (r.toList ++ []) I' L' Q)) : XT (50, 1188) Ln xs mL_law 535 [(0, .ref 1000020), (1, .ref 0), (2, .ref 49)] [] I L Q := by
  refine x_aload_n 1 dL_law_535 rfl rfl ?_
  refine x_iconst (v := (-1 : Int32)) dL_law_536 (by decide) ?_
  exact xt_callV mX9_order [.int (-1 : Int32)] [] 0 9 1 _ rfl dL_law_537 ml_L_100 qX9_order rfl ⟨Nat.le_of_ble_eq_true rfl, Nat.le_of_ble_eq_true rfl⟩ ⟨Nat.le_of_ble_eq_true rfl, Nat.le_of_ble_eq_true rfl⟩ ⟨rfl, rfl⟩ (Nat.le_of_ble_eq_true rfl) sh_0 (by decide) rfl (Nat.le_of_ble_eq_true rfl) (K)
theorem bL_law_540 {I : Nat → Nat → Int32} {L : Nat → Int64} {Q : Option Value → (Nat → Nat → Int32) → (Nat → Int64) → Prop} {Ln : Nat} {xs : Nat → Int32} {s0 : Int32}  (K : XT (50, 1188) Ln xs mL_law 545 [(0, .ref 1000020), (1, .ref 0), (2, .ref 49), (4, .int s0), (5, .int (0 : Int32))] [] I L Q) : XT (50, 1188) Ln xs mL_law 540 [(0, .ref 1000020), (1, .ref 0), (2, .ref 49)] [.int s0] I L Q := by
  refine x_istore [(0, .ref 1000020), (1, .ref 0), (2, .ref 49), (4, .int s0)] dL_law_540 (Nat.le_of_ble_eq_true rfl) rfl ?_
  refine x_iconst (v := (0 : Int32)) dL_law_542 (by decide) ?_
  refine x_istore [(0, .ref 1000020), (1, .ref 0), (2, .ref 49), (4, .int s0), (5, .int (0 : Int32))] dL_law_543 (Nat.le_of_ble_eq_true rfl) rfl ?_
  exact K
theorem bL_law_545 {I : Nat → Nat → Int32} {L : Nat → Int64} {Q : Option Value → (Nat → Nat → Int32) → (Nat → Int64) → Prop} {Ln : Nat} {xs : Nat → Int32} {v4 : Int32} {v5 : Int32}  (K1 : (v4 ≤ v5) → XT (50, 1188) Ln xs mL_law 628 [(0, .ref 1000020), (1, .ref 0), (2, .ref 49)] [] I L Q) (K2 : (¬ v4 ≤ v5) → XT (50, 1188) Ln xs mL_law 552 [(0, .ref 1000020), (1, .ref 0), (2, .ref 49), (4, .int v4), (5, .int v5)] [] I L Q) : XT (50, 1188) Ln xs mL_law 545 [(0, .ref 1000020), (1, .ref 0), (2, .ref 49), (4, .int v4), (5, .int v5)] [] I L Q := by
  refine x_iload 4 dL_law_545 rfl ?_
  refine x_iload 3 dL_law_547 rfl ?_
  exact x_icmp_ge 628 dL_law_549 (by decide) (fun h => x_sub [0, 1, 2] rfl (K1 h)) (fun h => K2 h)
theorem bL_law_552 {I : Nat → Nat → Int32} {L : Nat → Int64} {Q : Option Value → (Nat → Nat → Int32) → (Nat → Int64) → Prop} {Ln : Nat} {xs : Nat → Int32} {v4 : Int32} {v5 : Int32}  (K : XS mX9_order 0 [(0, .ref 0), (1, .int (0 : Int32))] [] I L (fun r I' L' => XT (50, 1188) Ln xs mL_law 558 [(0, .ref 1000020), (1, .ref 0), (2, .ref 49), (4, .int v4), (5, .int v5)] (r.toList ++ [.ref 0]) I' L' Q)) : XT (50, 1188) Ln xs mL_law 552 [(0, .ref 1000020), (1, .ref 0), (2, .ref 49), (4, .int v4), (5, .int v5)] [] I L Q := by
  refine x_aload_n 1 dL_law_552 rfl rfl ?_
  refine x_aload_n 1 dL_law_553 rfl rfl ?_
  refine x_iconst (v := (0 : Int32)) dL_law_554 (by decide) ?_
  exact xt_callV mX9_order [.int (0 : Int32)] [.ref 0] 0 9 1 _ rfl dL_law_555 ml_L_100 qX9_order rfl ⟨Nat.le_of_ble_eq_true rfl, Nat.le_of_ble_eq_true rfl⟩ ⟨Nat.le_of_ble_eq_true rfl, Nat.le_of_ble_eq_true rfl⟩ ⟨rfl, rfl⟩ (Nat.le_of_ble_eq_true rfl) sh_0 (by decide) rfl (Nat.le_of_ble_eq_true rfl) (K)
theorem bL_law_558 {I : Nat → Nat → Int32} {L : Nat → Int64} {Q : Option Value → (Nat → Nat → Int32) → (Nat → Int64) → Prop} {Ln : Nat} {xs : Nat → Int32} {v4 : Int32} {v5 : Int32} {s1 : Int32}  (K : XS mX9_safe 0 [(0, .ref 0), (1, .int s1)] [] I L (fun r I' L' => XT (50, 1188) Ln xs mL_law 561 [(0, .ref 1000020), (1, .ref 0), (2, .ref 49), (4, .int v4), (5, .int v5)] (r.toList ++ []) I' L' Q)) : XT (50, 1188) Ln xs mL_law 558 [(0, .ref 1000020), (1, .ref 0), (2, .ref 49), (4, .int v4), (5, .int v5)] [.int s1, .ref 0] I L Q := by
  exact xt_callV mX9_safe [.int s1] [] 0 9 1 _ rfl dL_law_558 ml_L_97 qX9_safe rfl ⟨Nat.le_of_ble_eq_true rfl, Nat.le_of_ble_eq_true rfl⟩ ⟨Nat.le_of_ble_eq_true rfl, Nat.le_of_ble_eq_true rfl⟩ ⟨rfl, rfl⟩ (Nat.le_of_ble_eq_true rfl) sh_0 (by decide) rfl (Nat.le_of_ble_eq_true rfl) (K)
theorem bL_law_561 {I : Nat → Nat → Int32} {L : Nat → Int64} {Q : Option Value → (Nat → Nat → Int32) → (Nat → Int64) → Prop} {Ln : Nat} {xs : Nat → Int32} {v4 : Int32} {v5 : Int32} {s0 : Int32}  (K1 : (¬ s0 = (1 : Int32)) → XT (50, 1188) Ln xs mL_law 592 [] [] I L Q) (K2 : (s0 = (1 : Int32)) → XT (50, 1188) Ln xs mL_law 565 [(0, .ref 1000020), (1, .ref 0), (2, .ref 49), (4, .int v4), (5, .int v5)] [] I L Q) : XT (50, 1188) Ln xs mL_law 561 [(0, .ref 1000020), (1, .ref 0), (2, .ref 49), (4, .int v4), (5, .int v5)] [.int s0] I L Q := by
  refine x_iconst (v := (1 : Int32)) dL_law_561 (by decide) ?_
  exact x_icmp_ne 592 dL_law_562 (by decide) (fun h => x_sub [] rfl (K1 h)) (fun h => K2 h)
theorem bL_law_565 {I : Nat → Nat → Int32} {L : Nat → Int64} {Q : Option Value → (Nat → Nat → Int32) → (Nat → Int64) → Prop} {Ln : Nat} {xs : Nat → Int32} {v4 : Int32} {v5 : Int32}  (K : XS mX9_order 0 [(0, .ref 0), (1, .int (0 : Int32))] [] I L (fun r I' L' => XT (50, 1188) Ln xs mL_law 571 [(0, .ref 1000020), (1, .ref 0), (2, .ref 49), (4, .int v4), (5, .int v5)] (r.toList ++ [.ref 0]) I' L' Q)) : XT (50, 1188) Ln xs mL_law 565 [(0, .ref 1000020), (1, .ref 0), (2, .ref 49), (4, .int v4), (5, .int v5)] [] I L Q := by
  refine x_aload_n 1 dL_law_565 rfl rfl ?_
  refine x_aload_n 1 dL_law_566 rfl rfl ?_
  refine x_iconst (v := (0 : Int32)) dL_law_567 (by decide) ?_
  exact xt_callV mX9_order [.int (0 : Int32)] [.ref 0] 0 9 1 _ rfl dL_law_568 ml_L_100 qX9_order rfl ⟨Nat.le_of_ble_eq_true rfl, Nat.le_of_ble_eq_true rfl⟩ ⟨Nat.le_of_ble_eq_true rfl, Nat.le_of_ble_eq_true rfl⟩ ⟨rfl, rfl⟩ (Nat.le_of_ble_eq_true rfl) sh_0 (by decide) rfl (Nat.le_of_ble_eq_true rfl) (K)
theorem bL_law_571 {I : Nat → Nat → Int32} {L : Nat → Int64} {Q : Option Value → (Nat → Nat → Int32) → (Nat → Int64) → Prop} {Ln : Nat} {xs : Nat → Int32} {v4 : Int32} {v5 : Int32} {s1 : Int32}  (K : XS mX9_learn 0 [(0, .ref 0), (1, .int s1)] [] I L (fun r I' L' => XT (50, 1188) Ln xs mL_law 574 [(0, .ref 1000020), (1, .ref 0), (2, .ref 49), (4, .int v4), (5, .int v5)] (r.toList ++ []) I' L' Q)) : XT (50, 1188) Ln xs mL_law 571 [(0, .ref 1000020), (1, .ref 0), (2, .ref 49), (4, .int v4), (5, .int v5)] [.int s1, .ref 0] I L Q := by
  exact xt_callV mX9_learn [.int s1] [] 0 9 1 _ rfl dL_law_571 ml_L_82 qX9_learn rfl ⟨Nat.le_of_ble_eq_true rfl, Nat.le_of_ble_eq_true rfl⟩ ⟨Nat.le_of_ble_eq_true rfl, Nat.le_of_ble_eq_true rfl⟩ ⟨rfl, rfl⟩ (Nat.le_of_ble_eq_true rfl) sh_0 (by decide) rfl (Nat.le_of_ble_eq_true rfl) (K)
theorem bL_law_574 {I : Nat → Nat → Int32} {L : Nat → Int64} {Q : Option Value → (Nat → Nat → Int32) → (Nat → Int64) → Prop} {Ln : Nat} {xs : Nat → Int32} {v4 : Int32} {v5 : Int32} {s0 : Int32}  (K1 : (s0 < 0) → XT (50, 1188) Ln xs mL_law 592 [] [] I L Q) (K2 : (¬ s0 < 0) → XT (50, 1188) Ln xs mL_law 577 [(0, .ref 1000020), (1, .ref 0), (2, .ref 49), (4, .int v4), (5, .int v5)] [] I L Q) : XT (50, 1188) Ln xs mL_law 574 [(0, .ref 1000020), (1, .ref 0), (2, .ref 49), (4, .int v4), (5, .int v5)] [.int s0] I L Q := by
  exact x_if_lt 592 dL_law_574 (by decide) (fun h => x_sub [] rfl (K1 h)) (fun h => K2 h)
theorem bL_law_577 {I : Nat → Nat → Int32} {L : Nat → Int64} {Q : Option Value → (Nat → Nat → Int32) → (Nat → Int64) → Prop} {Ln : Nat} {xs : Nat → Int32} {v4 : Int32} {v5 : Int32}  (K : XS mX9_order 0 [(0, .ref 0), (1, .int (-1 : Int32))] [] I L (fun r I' L' => XT (50, 1188) Ln xs mL_law 582 [(0, .ref 1000020), (1, .ref 0), (2, .ref 49), (4, .int v4), (5, .int v5)] (r.toList ++ []) I' L' Q)) : XT (50, 1188) Ln xs mL_law 577 [(0, .ref 1000020), (1, .ref 0), (2, .ref 49), (4, .int v4), (5, .int v5)] [] I L Q := by
  refine x_aload_n 1 dL_law_577 rfl rfl ?_
  refine x_iconst (v := (-1 : Int32)) dL_law_578 (by decide) ?_
  exact xt_callV mX9_order [.int (-1 : Int32)] [] 0 9 1 _ rfl dL_law_579 ml_L_100 qX9_order rfl ⟨Nat.le_of_ble_eq_true rfl, Nat.le_of_ble_eq_true rfl⟩ ⟨Nat.le_of_ble_eq_true rfl, Nat.le_of_ble_eq_true rfl⟩ ⟨rfl, rfl⟩ (Nat.le_of_ble_eq_true rfl) sh_0 (by decide) rfl (Nat.le_of_ble_eq_true rfl) (K)
theorem bL_law_582 {I : Nat → Nat → Int32} {L : Nat → Int64} {Q : Option Value → (Nat → Nat → Int32) → (Nat → Int64) → Prop} {Ln : Nat} {xs : Nat → Int32} {v4 : Int32} {v5 : Int32} {s0 : Int32}  (K1 : (s0 = ((v4 - (1 : Int32)) - v5)) → XT (50, 1188) Ln xs mL_law 594 [(0, .ref 1000020), (1, .ref 0), (2, .ref 49), (4, .int v4), (5, .int v5)] [] I L Q) (K2 : (¬ s0 = ((v4 - (1 : Int32)) - v5)) → XT (50, 1188) Ln xs mL_law 592 [] [] I L Q) : XT (50, 1188) Ln xs mL_law 582 [(0, .ref 1000020), (1, .ref 0), (2, .ref 49), (4, .int v4), (5, .int v5)] [.int s0] I L Q := by
  refine x_iload 3 dL_law_582 rfl ?_
  refine x_iconst (v := (1 : Int32)) dL_law_584 (by decide) ?_
  refine x_isub dL_law_585 ?_
  refine x_iload 4 dL_law_586 rfl ?_
  refine x_isub dL_law_588 ?_
  exact x_icmp_eq 594 dL_law_589 (by decide) (fun h => K1 h) (fun h => x_sub [] rfl (K2 h))
theorem bL_law_592 {I : Nat → Nat → Int32} {L : Nat → Int64} {Q : Option Value → (Nat → Nat → Int32) → (Nat → Int64) → Prop} {Ln : Nat} {xs : Nat → Int32}   (K : Q (some (.int (0 : Int32))) I L) : XT (50, 1188) Ln xs mL_law 592 [] [] I L Q := by
  refine x_iconst (v := (0 : Int32)) dL_law_592 (by decide) ?_
  exact xt_iret dL_law_593 rfl (x_nar _ (Or.inl rfl)) K
theorem bL_law_594 {I : Nat → Nat → Int32} {L : Nat → Int64} {Q : Option Value → (Nat → Nat → Int32) → (Nat → Int64) → Prop} {Ln : Nat} {xs : Nat → Int32} {v4 : Int32} {v5 : Int32}  (K : XT (50, 1188) Ln xs mL_law 597 [(0, .ref 1000020), (1, .ref 0), (2, .ref 49), (4, .int v4), (5, .int v5), (6, .int (0 : Int32))] [] I L Q) : XT (50, 1188) Ln xs mL_law 594 [(0, .ref 1000020), (1, .ref 0), (2, .ref 49), (4, .int v4), (5, .int v5)] [] I L Q := by
  refine x_iconst (v := (0 : Int32)) dL_law_594 (by decide) ?_
  refine x_istore [(0, .ref 1000020), (1, .ref 0), (2, .ref 49), (4, .int v4), (5, .int v5), (6, .int (0 : Int32))] dL_law_595 (Nat.le_of_ble_eq_true rfl) rfl ?_
  exact K
theorem bL_law_597 {I : Nat → Nat → Int32} {L : Nat → Int64} {Q : Option Value → (Nat → Nat → Int32) → (Nat → Int64) → Prop} {Ln : Nat} {xs : Nat → Int32} {v4 : Int32} {v5 : Int32} {v6 : Int32}  (K1 : ((I 3136 0) ≤ v6) → XT (50, 1188) Ln xs mL_law 622 [(0, .ref 1000020), (1, .ref 0), (2, .ref 49), (4, .int v4), (5, .int v5)] [] I L Q) (K2 : (¬ (I 3136 0) ≤ v6) → XT (50, 1188) Ln xs mL_law 605 [(0, .ref 1000020), (1, .ref 0), (2, .ref 49), (4, .int v4), (5, .int v5), (6, .int v6)] [] I L Q) : XT (50, 1188) Ln xs mL_law 597 [(0, .ref 1000020), (1, .ref 0), (2, .ref 49), (4, .int v4), (5, .int v5), (6, .int v6)] [] I L Q := by
  refine x_iload 5 dL_law_597 rfl ?_
  refine x_aload_n 2 dL_law_599 rfl rfl ?_
  refine x_iconst (v := (0 : Int32)) dL_law_600 (by decide) ?_
  refine xt_iald 3136 (0) dL_law_601 sh_49 rfl (by decide) (x_vpin (by decide)) ?_
  exact x_icmp_ge 622 dL_law_602 (by decide) (fun h => x_sub [0, 1, 2, 3, 4] rfl (K1 h)) (fun h => K2 h)
theorem bL_law_605 {I : Nat → Nat → Int32} {L : Nat → Int64} {Q : Option Value → (Nat → Nat → Int32) → (Nat → Int64) → Prop} {Ln : Nat} {xs : Nat → Int32} {v4 : Int32} {v5 : Int32} {v6 : Int32}  (K : XS mX9_rings 0 [(0, .ref 0), (1, .int v6)] [] I L (fun r I' L' => XT (50, 1188) Ln xs mL_law 611 [(0, .ref 1000020), (1, .ref 0), (2, .ref 49), (4, .int v4), (5, .int v5), (6, .int v6)] (r.toList ++ []) I' L' Q)) : XT (50, 1188) Ln xs mL_law 605 [(0, .ref 1000020), (1, .ref 0), (2, .ref 49), (4, .int v4), (5, .int v5), (6, .int v6)] [] I L Q := by
  refine x_aload_n 1 dL_law_605 rfl rfl ?_
  refine x_iload 5 dL_law_606 rfl ?_
  exact xt_callV mX9_rings [.int v6] [] 0 9 1 _ rfl dL_law_608 ml_L_94 qX9_rings rfl ⟨Nat.le_of_ble_eq_true rfl, Nat.le_of_ble_eq_true rfl⟩ ⟨Nat.le_of_ble_eq_true rfl, Nat.le_of_ble_eq_true rfl⟩ ⟨rfl, rfl⟩ (Nat.le_of_ble_eq_true rfl) sh_0 (by decide) rfl (Nat.le_of_ble_eq_true rfl) (K)
theorem bL_law_611 {I : Nat → Nat → Int32} {L : Nat → Int64} {Q : Option Value → (Nat → Nat → Int32) → (Nat → Int64) → Prop} {Ln : Nat} {xs : Nat → Int32} {v4 : Int32} {v5 : Int32} {v6 : Int32} {s0 : Int32}  (K1 : (s0 = 0) → XT (50, 1188) Ln xs mL_law 616 [(0, .ref 1000020), (1, .ref 0), (2, .ref 49), (4, .int v4), (5, .int v5), (6, .int v6)] [] I L Q) (K2 : (¬ s0 = 0) → XT (50, 1188) Ln xs mL_law 614 [] [] I L Q) : XT (50, 1188) Ln xs mL_law 611 [(0, .ref 1000020), (1, .ref 0), (2, .ref 49), (4, .int v4), (5, .int v5), (6, .int v6)] [.int s0] I L Q := by
  exact x_if_eq 616 dL_law_611 (by decide) (fun h => K1 h) (fun h => x_sub [] rfl (K2 h))
theorem bL_law_614 {I : Nat → Nat → Int32} {L : Nat → Int64} {Q : Option Value → (Nat → Nat → Int32) → (Nat → Int64) → Prop} {Ln : Nat} {xs : Nat → Int32}   (K : Q (some (.int (0 : Int32))) I L) : XT (50, 1188) Ln xs mL_law 614 [] [] I L Q := by
  refine x_iconst (v := (0 : Int32)) dL_law_614 (by decide) ?_
  exact xt_iret dL_law_615 rfl (x_nar _ (Or.inl rfl)) K
theorem bL_law_616 {I : Nat → Nat → Int32} {L : Nat → Int64} {Q : Option Value → (Nat → Nat → Int32) → (Nat → Int64) → Prop} {Ln : Nat} {xs : Nat → Int32} {v4 : Int32} {v5 : Int32} {v6 : Int32}  (K : XT (50, 1188) Ln xs mL_law 597 [(0, .ref 1000020), (1, .ref 0), (2, .ref 49), (4, .int v4), (5, .int v5), (6, .int (v6 + (1 : Int32)))] [] I L Q) : XT (50, 1188) Ln xs mL_law 616 [(0, .ref 1000020), (1, .ref 0), (2, .ref 49), (4, .int v4), (5, .int v5), (6, .int v6)] [] I L Q := by
  refine x_iinc 5 (v6 + (1 : Int32)) [(0, .ref 1000020), (1, .ref 0), (2, .ref 49), (4, .int v4), (5, .int v5), (6, .int (v6 + (1 : Int32)))] dL_law_616 rfl rfl (Nat.le_of_ble_eq_true rfl) rfl ?_
  exact x_goto 597 dL_law_619 (by decide) (K)
theorem bL_law_622 {I : Nat → Nat → Int32} {L : Nat → Int64} {Q : Option Value → (Nat → Nat → Int32) → (Nat → Int64) → Prop} {Ln : Nat} {xs : Nat → Int32} {v4 : Int32} {v5 : Int32}  (K : XT (50, 1188) Ln xs mL_law 545 [(0, .ref 1000020), (1, .ref 0), (2, .ref 49), (4, .int v4), (5, .int (v5 + (1 : Int32)))] [] I L Q) : XT (50, 1188) Ln xs mL_law 622 [(0, .ref 1000020), (1, .ref 0), (2, .ref 49), (4, .int v4), (5, .int v5)] [] I L Q := by
  refine x_iinc 4 (v5 + (1 : Int32)) [(0, .ref 1000020), (1, .ref 0), (2, .ref 49), (4, .int v4), (5, .int (v5 + (1 : Int32)))] dL_law_622 rfl rfl (Nat.le_of_ble_eq_true rfl) rfl ?_
  exact x_goto 545 dL_law_625 (by decide) (K)
theorem bL_law_628 {I : Nat → Nat → Int32} {L : Nat → Int64} {Q : Option Value → (Nat → Nat → Int32) → (Nat → Int64) → Prop} {Ln : Nat} {xs : Nat → Int32}   (K : XT (0, 0) Ln xs mL_cell 0 [(0, .ref 1000020), (1, .int (31 : Int32))] [] I L (fun r I' L' => XT (50, 1188) Ln xs mL_law 636 [(0, .ref 1000020), (1, .ref 0), (2, .ref 49)] (r.toList ++ [.ref 49, .ref 0]) I' L' Q)) : XT (50, 1188) Ln xs mL_law 628 [(0, .ref 1000020), (1, .ref 0), (2, .ref 49)] [] I L Q := by
  refine x_aload_n 1 dL_law_628 rfl rfl ?_
  refine x_aload_n 2 dL_law_629 rfl rfl ?_
  refine x_aload_n 0 dL_law_630 rfl rfl ?_
  refine x_bipush (v := (31 : Int32)) dL_law_631 (by decide) ?_
  exact xt_callSS mL_cell [.ref 1000020, .int (31 : Int32)] [.ref 49, .ref 0] 2 _ rfl dL_law_633 ml_L_9 qL_cell rfl ⟨Nat.le_of_ble_eq_true rfl, Nat.le_of_ble_eq_true rfl⟩ ⟨Nat.le_of_ble_eq_true rfl, Nat.le_of_ble_eq_true rfl⟩ ⟨rfl, rfl⟩ (Nat.le_of_ble_eq_true rfl) (Nat.le_of_ble_eq_true rfl) (K)
theorem bL_law_636 {I : Nat → Nat → Int32} {L : Nat → Int64} {Q : Option Value → (Nat → Nat → Int32) → (Nat → Int64) → Prop} {Ln : Nat} {xs : Nat → Int32} {s2 : Int32}  (K : XS mL_arrives 0 [(0, .ref 0), (1, .ref 49), (2, .int s2)] [] I L (fun r I' L' => XT (50, 1188) Ln xs mL_law 639 [(0, .ref 1000020), (1, .ref 0), (2, .ref 49)] (r.toList ++ []) I' L' Q)) : XT (50, 1188) Ln xs mL_law 636 [(0, .ref 1000020), (1, .ref 0), (2, .ref 49)] [.int s2, .ref 49, .ref 0] I L Q := by
  exact xt_callS mL_arrives [.ref 0, .ref 49, .int s2] [] 3 _ rfl dL_law_636 ml_L_150 qL_arrives rfl ⟨Nat.le_of_ble_eq_true rfl, Nat.le_of_ble_eq_true rfl⟩ ⟨Nat.le_of_ble_eq_true rfl, Nat.le_of_ble_eq_true rfl⟩ ⟨rfl, rfl⟩ (Nat.le_of_ble_eq_true rfl) (Nat.le_of_ble_eq_true rfl) (K)
theorem bL_law_639 {I : Nat → Nat → Int32} {L : Nat → Int64} {Q : Option Value → (Nat → Nat → Int32) → (Nat → Int64) → Prop} {Ln : Nat} {xs : Nat → Int32} {s0 : Int32}  (K1 : (s0 = 0) → XT (50, 1188) Ln xs mL_law 656 [] [] I L Q) (K2 : (¬ s0 = 0) → XT (50, 1188) Ln xs mL_law 642 [(0, .ref 1000020), (1, .ref 0), (2, .ref 49)] [] I L Q) : XT (50, 1188) Ln xs mL_law 639 [(0, .ref 1000020), (1, .ref 0), (2, .ref 49)] [.int s0] I L Q := by
  exact x_if_eq 656 dL_law_639 (by decide) (fun h => x_sub [] rfl (K1 h)) (fun h => K2 h)
theorem bL_law_642 {I : Nat → Nat → Int32} {L : Nat → Int64} {Q : Option Value → (Nat → Nat → Int32) → (Nat → Int64) → Prop} {Ln : Nat} {xs : Nat → Int32}   (K : XT (0, 0) Ln xs mL_cell 0 [(0, .ref 1000020), (1, .int (32 : Int32))] [] I L (fun r I' L' => XT (50, 1188) Ln xs mL_law 650 [(1, .ref 0), (2, .ref 49)] (r.toList ++ [.ref 49, .ref 0]) I' L' Q)) : XT (50, 1188) Ln xs mL_law 642 [(0, .ref 1000020), (1, .ref 0), (2, .ref 49)] [] I L Q := by
  refine x_aload_n 1 dL_law_642 rfl rfl ?_
  refine x_aload_n 2 dL_law_643 rfl rfl ?_
  refine x_aload_n 0 dL_law_644 rfl rfl ?_
  refine x_bipush (v := (32 : Int32)) dL_law_645 (by decide) ?_
  refine x_sub [1, 2] rfl ?_
  exact xt_callSS mL_cell [.ref 1000020, .int (32 : Int32)] [.ref 49, .ref 0] 2 _ rfl dL_law_647 ml_L_9 qL_cell rfl ⟨Nat.le_of_ble_eq_true rfl, Nat.le_of_ble_eq_true rfl⟩ ⟨Nat.le_of_ble_eq_true rfl, Nat.le_of_ble_eq_true rfl⟩ ⟨rfl, rfl⟩ (Nat.le_of_ble_eq_true rfl) (Nat.le_of_ble_eq_true rfl) (K)
theorem bL_law_650 {I : Nat → Nat → Int32} {L : Nat → Int64} {Q : Option Value → (Nat → Nat → Int32) → (Nat → Int64) → Prop} {Ln : Nat} {xs : Nat → Int32} {s2 : Int32}  (K : XS mL_arrives 0 [(0, .ref 0), (1, .ref 49), (2, .int s2)] [] I L (fun r I' L' => XT (50, 1188) Ln xs mL_law 653 [(1, .ref 0), (2, .ref 49)] (r.toList ++ []) I' L' Q)) : XT (50, 1188) Ln xs mL_law 650 [(1, .ref 0), (2, .ref 49)] [.int s2, .ref 49, .ref 0] I L Q := by
  exact xt_callS mL_arrives [.ref 0, .ref 49, .int s2] [] 3 _ rfl dL_law_650 ml_L_150 qL_arrives rfl ⟨Nat.le_of_ble_eq_true rfl, Nat.le_of_ble_eq_true rfl⟩ ⟨Nat.le_of_ble_eq_true rfl, Nat.le_of_ble_eq_true rfl⟩ ⟨rfl, rfl⟩ (Nat.le_of_ble_eq_true rfl) (Nat.le_of_ble_eq_true rfl) (K)
theorem bL_law_653 {I : Nat → Nat → Int32} {L : Nat → Int64} {Q : Option Value → (Nat → Nat → Int32) → (Nat → Int64) → Prop} {Ln : Nat} {xs : Nat → Int32} {s0 : Int32}  (K1 : (¬ s0 = 0) → XT (50, 1188) Ln xs mL_law 658 [(1, .ref 0), (2, .ref 49)] [] I L Q) (K2 : (s0 = 0) → XT (50, 1188) Ln xs mL_law 656 [] [] I L Q) : XT (50, 1188) Ln xs mL_law 653 [(1, .ref 0), (2, .ref 49)] [.int s0] I L Q := by
  exact x_if_ne 658 dL_law_653 (by decide) (fun h => K1 h) (fun h => x_sub [] rfl (K2 h))
theorem bL_law_656 {I : Nat → Nat → Int32} {L : Nat → Int64} {Q : Option Value → (Nat → Nat → Int32) → (Nat → Int64) → Prop} {Ln : Nat} {xs : Nat → Int32}   (K : Q (some (.int (0 : Int32))) I L) : XT (50, 1188) Ln xs mL_law 656 [] [] I L Q := by
  refine x_iconst (v := (0 : Int32)) dL_law_656 (by decide) ?_
  exact xt_iret dL_law_657 rfl (x_nar _ (Or.inl rfl)) K
theorem bL_law_658 {I : Nat → Nat → Int32} {L : Nat → Int64} {Q : Option Value → (Nat → Nat → Int32) → (Nat → Int64) → Prop} {Ln : Nat} {xs : Nat → Int32}   (K : XS mX9_count 0 [(0, .ref 0), (1, .int (11 : Int32))] [] I L (fun r I' L' => XT (50, 1188) Ln xs mL_law 664 [(1, .ref 0), (2, .ref 49)] (r.toList ++ []) I' L' Q)) : XT (50, 1188) Ln xs mL_law 658 [(1, .ref 0), (2, .ref 49)] [] I L Q := by
  refine x_aload_n 0 dL_law_658 rfl rfl ?_
  refine x_bipush (v := (11 : Int32)) dL_law_659 (by decide) ?_
  exact xt_callV mX9_count [.int (11 : Int32)] [] 0 9 1 _ rfl dL_law_661 ml_L_39 qX9_count rfl ⟨Nat.le_of_ble_eq_true rfl, Nat.le_of_ble_eq_true rfl⟩ ⟨Nat.le_of_ble_eq_true rfl, Nat.le_of_ble_eq_true rfl⟩ ⟨rfl, rfl⟩ (Nat.le_of_ble_eq_true rfl) sh_0 (by decide) rfl (Nat.le_of_ble_eq_true rfl) (K)
theorem bL_law_664 {I : Nat → Nat → Int32} {L : Nat → Int64} {Q : Option Value → (Nat → Nat → Int32) → (Nat → Int64) → Prop} {Ln : Nat} {xs : Nat → Int32} {s0 : Int32}  (K1 : (s0 ≤ 0) → XT (50, 1188) Ln xs mL_law 676 [(1, .ref 0), (2, .ref 49)] [] I L Q) (K2 : (¬ s0 ≤ 0) → XT (50, 1188) Ln xs mL_law 667 [(1, .ref 0), (2, .ref 49)] [] I L Q) : XT (50, 1188) Ln xs mL_law 664 [(1, .ref 0), (2, .ref 49)] [.int s0] I L Q := by
  exact x_if_le 676 dL_law_664 (by decide) (fun h => K1 h) (fun h => K2 h)
theorem bL_law_667 {I : Nat → Nat → Int32} {L : Nat → Int64} {Q : Option Value → (Nat → Nat → Int32) → (Nat → Int64) → Prop} {Ln : Nat} {xs : Nat → Int32}   (K : XS mX9_undo 0 [(0, .ref 0)] [] I L (fun r I' L' => XT (50, 1188) Ln xs mL_law 671 [(1, .ref 0), (2, .ref 49)] (r.toList ++ []) I' L' Q)) : XT (50, 1188) Ln xs mL_law 667 [(1, .ref 0), (2, .ref 49)] [] I L Q := by
  refine x_aload_n 0 dL_law_667 rfl rfl ?_
  exact xt_callV mX9_undo [] [] 0 9 0 _ rfl dL_law_668 ml_L_126 qX9_undo rfl ⟨Nat.le_of_ble_eq_true rfl, Nat.le_of_ble_eq_true rfl⟩ ⟨Nat.le_of_ble_eq_true rfl, Nat.le_of_ble_eq_true rfl⟩ ⟨rfl, rfl⟩ (Nat.le_of_ble_eq_true rfl) sh_0 (by decide) rfl (Nat.le_of_ble_eq_true rfl) (K)
theorem bL_law_671 {I : Nat → Nat → Int32} {L : Nat → Int64} {Q : Option Value → (Nat → Nat → Int32) → (Nat → Int64) → Prop} {Ln : Nat} {xs : Nat → Int32} {s0 : Int32}  (K1 : (0 ≤ s0) → XT (50, 1188) Ln xs mL_law 658 [(1, .ref 0), (2, .ref 49)] [] I L Q) (K2 : (¬ 0 ≤ s0) → XT (50, 1188) Ln xs mL_law 674 [] [] I L Q) : XT (50, 1188) Ln xs mL_law 671 [(1, .ref 0), (2, .ref 49)] [.int s0] I L Q := by
  exact x_if_ge 658 dL_law_671 (by decide) (fun h => K1 h) (fun h => x_sub [] rfl (K2 h))
theorem bL_law_674 {I : Nat → Nat → Int32} {L : Nat → Int64} {Q : Option Value → (Nat → Nat → Int32) → (Nat → Int64) → Prop} {Ln : Nat} {xs : Nat → Int32}   (K : Q (some (.int (0 : Int32))) I L) : XT (50, 1188) Ln xs mL_law 674 [] [] I L Q := by
  refine x_iconst (v := (0 : Int32)) dL_law_674 (by decide) ?_
  exact xt_iret dL_law_675 rfl (x_nar _ (Or.inl rfl)) K
theorem bL_law_676 {I : Nat → Nat → Int32} {L : Nat → Int64} {Q : Option Value → (Nat → Nat → Int32) → (Nat → Int64) → Prop} {Ln : Nat} {xs : Nat → Int32}   (K : XS mX9_undo 0 [(0, .ref 0)] [] I L (fun r I' L' => XT (50, 1188) Ln xs mL_law 680 [(1, .ref 0), (2, .ref 49)] (r.toList ++ []) I' L' Q)) : XT (50, 1188) Ln xs mL_law 676 [(1, .ref 0), (2, .ref 49)] [] I L Q := by
  refine x_aload_n 0 dL_law_676 rfl rfl ?_
  exact xt_callV mX9_undo [] [] 0 9 0 _ rfl dL_law_677 ml_L_126 qX9_undo rfl ⟨Nat.le_of_ble_eq_true rfl, Nat.le_of_ble_eq_true rfl⟩ ⟨Nat.le_of_ble_eq_true rfl, Nat.le_of_ble_eq_true rfl⟩ ⟨rfl, rfl⟩ (Nat.le_of_ble_eq_true rfl) sh_0 (by decide) rfl (Nat.le_of_ble_eq_true rfl) (K)
theorem bL_law_680 {I : Nat → Nat → Int32} {L : Nat → Int64} {Q : Option Value → (Nat → Nat → Int32) → (Nat → Int64) → Prop} {Ln : Nat} {xs : Nat → Int32} {s0 : Int32}  (K1 : (s0 = (-4 : Int32)) → XT (50, 1188) Ln xs mL_law 687 [(1, .ref 0), (2, .ref 49)] [] I L Q) (K2 : (¬ s0 = (-4 : Int32)) → XT (50, 1188) Ln xs mL_law 685 [] [] I L Q) : XT (50, 1188) Ln xs mL_law 680 [(1, .ref 0), (2, .ref 49)] [.int s0] I L Q := by
  refine x_bipush (v := (-4 : Int32)) dL_law_680 (by decide) ?_
  exact x_icmp_eq 687 dL_law_682 (by decide) (fun h => K1 h) (fun h => x_sub [] rfl (K2 h))
theorem bL_law_685 {I : Nat → Nat → Int32} {L : Nat → Int64} {Q : Option Value → (Nat → Nat → Int32) → (Nat → Int64) → Prop} {Ln : Nat} {xs : Nat → Int32}   (K : Q (some (.int (0 : Int32))) I L) : XT (50, 1188) Ln xs mL_law 685 [] [] I L Q := by
  refine x_iconst (v := (0 : Int32)) dL_law_685 (by decide) ?_
  exact xt_iret dL_law_686 rfl (x_nar _ (Or.inl rfl)) K
theorem bL_law_687 {I : Nat → Nat → Int32} {L : Nat → Int64} {Q : Option Value → (Nat → Nat → Int32) → (Nat → Int64) → Prop} {Ln : Nat} {xs : Nat → Int32}   (K : XS mL_says 0 [(0, .ref 0), (1, .int (110 : Int32)), (2, .int (111 : Int32)), (3, .int (100 : Int32)), (4, .int (101 : Int32))] [] I L (fun r I' L' => XT (50, 1188) Ln xs mL_law 699 [(1, .ref 0), (2, .ref 49)] (r.toList ++ []) I' L' Q)) : XT (50, 1188) Ln xs mL_law 687 [(1, .ref 0), (2, .ref 49)] [] I L Q := by
  refine x_aload_n 0 dL_law_687 rfl rfl ?_
  refine x_bipush (v := (110 : Int32)) dL_law_688 (by decide) ?_
  refine x_bipush (v := (111 : Int32)) dL_law_690 (by decide) ?_
  refine x_bipush (v := (100 : Int32)) dL_law_692 (by decide) ?_
  refine x_bipush (v := (101 : Int32)) dL_law_694 (by decide) ?_
  exact xt_callS mL_says [.ref 0, .int (110 : Int32), .int (111 : Int32), .int (100 : Int32), .int (101 : Int32)] [] 5 _ rfl dL_law_696 ml_L_25 qL_says rfl ⟨Nat.le_of_ble_eq_true rfl, Nat.le_of_ble_eq_true rfl⟩ ⟨Nat.le_of_ble_eq_true rfl, Nat.le_of_ble_eq_true rfl⟩ ⟨rfl, rfl⟩ (Nat.le_of_ble_eq_true rfl) (Nat.le_of_ble_eq_true rfl) (K)
theorem bL_law_699 {I : Nat → Nat → Int32} {L : Nat → Int64} {Q : Option Value → (Nat → Nat → Int32) → (Nat → Int64) → Prop} {Ln : Nat} {xs : Nat → Int32}   (K : XS mL_says 0 [(0, .ref 0), (1, .int (115 : Int32)), (2, .int ((48 : Int32) + (I 3136 0))), (3, .int (32 : Int32)), (4, .int (32 : Int32))] [] I L (fun r I' L' => XT (50, 1188) Ln xs mL_law 715 [(1, .ref 0), (2, .ref 49)] (r.toList ++ []) I' L' Q)) : XT (50, 1188) Ln xs mL_law 699 [(1, .ref 0), (2, .ref 49)] [] I L Q := by
  refine x_aload_n 0 dL_law_699 rfl rfl ?_
  refine x_bipush (v := (115 : Int32)) dL_law_700 (by decide) ?_
  refine x_bipush (v := (48 : Int32)) dL_law_702 (by decide) ?_
  refine x_aload_n 1 dL_law_704 rfl rfl ?_
  refine x_iconst (v := (0 : Int32)) dL_law_705 (by decide) ?_
  refine xt_iald 3136 (0) dL_law_706 sh_49 rfl (by decide) (x_vpin (by decide)) ?_
  refine x_iadd dL_law_707 ?_
  refine x_bipush (v := (32 : Int32)) dL_law_708 (by decide) ?_
  refine x_bipush (v := (32 : Int32)) dL_law_710 (by decide) ?_
  exact xt_callS mL_says [.ref 0, .int (115 : Int32), .int ((48 : Int32) + (I 3136 0)), .int (32 : Int32), .int (32 : Int32)] [] 5 _ rfl dL_law_712 ml_L_25 qL_says rfl ⟨Nat.le_of_ble_eq_true rfl, Nat.le_of_ble_eq_true rfl⟩ ⟨Nat.le_of_ble_eq_true rfl, Nat.le_of_ble_eq_true rfl⟩ ⟨rfl, rfl⟩ (Nat.le_of_ble_eq_true rfl) (Nat.le_of_ble_eq_true rfl) (K)
theorem bL_law_715 {I : Nat → Nat → Int32} {L : Nat → Int64} {Q : Option Value → (Nat → Nat → Int32) → (Nat → Int64) → Prop} {Ln : Nat} {xs : Nat → Int32}   (K : XS mX9_tell 0 [(0, .ref 0)] [] I L (fun r I' L' => XT (50, 1188) Ln xs mL_law 719 [(1, .ref 0), (2, .ref 49)] (r.toList ++ []) I' L' Q)) : XT (50, 1188) Ln xs mL_law 715 [(1, .ref 0), (2, .ref 49)] [] I L Q := by
  refine x_aload_n 0 dL_law_715 rfl rfl ?_
  exact xt_callV mX9_tell [] [] 0 9 0 _ rfl dL_law_716 ml_L_36 qX9_tell rfl ⟨Nat.le_of_ble_eq_true rfl, Nat.le_of_ble_eq_true rfl⟩ ⟨Nat.le_of_ble_eq_true rfl, Nat.le_of_ble_eq_true rfl⟩ ⟨rfl, rfl⟩ (Nat.le_of_ble_eq_true rfl) sh_0 (by decide) rfl (Nat.le_of_ble_eq_true rfl) (K)
theorem bL_law_719 {I : Nat → Nat → Int32} {L : Nat → Int64} {Q : Option Value → (Nat → Nat → Int32) → (Nat → Int64) → Prop} {Ln : Nat} {xs : Nat → Int32} {s0 : Int32}  (K1 : (¬ s0 = (1 : Int32)) → XT (50, 1188) Ln xs mL_law 817 [] [] I L Q) (K2 : (s0 = (1 : Int32)) → XT (50, 1188) Ln xs mL_law 723 [(1, .ref 0), (2, .ref 49)] [] I L Q) : XT (50, 1188) Ln xs mL_law 719 [(1, .ref 0), (2, .ref 49)] [.int s0] I L Q := by
  refine x_iconst (v := (1 : Int32)) dL_law_719 (by decide) ?_
  exact x_icmp_ne 817 dL_law_720 (by decide) (fun h => x_sub [] rfl (K1 h)) (fun h => K2 h)
theorem bL_law_723 {I : Nat → Nat → Int32} {L : Nat → Int64} {Q : Option Value → (Nat → Nat → Int32) → (Nat → Int64) → Prop} {Ln : Nat} {xs : Nat → Int32}   (K : XS mX9_count 0 [(0, .ref 0), (1, .int (0 : Int32))] [] I L (fun r I' L' => XT (50, 1188) Ln xs mL_law 728 [(1, .ref 0), (2, .ref 49)] (r.toList ++ []) I' L' Q)) : XT (50, 1188) Ln xs mL_law 723 [(1, .ref 0), (2, .ref 49)] [] I L Q := by
  refine x_aload_n 0 dL_law_723 rfl rfl ?_
  refine x_iconst (v := (0 : Int32)) dL_law_724 (by decide) ?_
  exact xt_callV mX9_count [.int (0 : Int32)] [] 0 9 1 _ rfl dL_law_725 ml_L_39 qX9_count rfl ⟨Nat.le_of_ble_eq_true rfl, Nat.le_of_ble_eq_true rfl⟩ ⟨Nat.le_of_ble_eq_true rfl, Nat.le_of_ble_eq_true rfl⟩ ⟨rfl, rfl⟩ (Nat.le_of_ble_eq_true rfl) sh_0 (by decide) rfl (Nat.le_of_ble_eq_true rfl) (K)
theorem bL_law_728 {I : Nat → Nat → Int32} {L : Nat → Int64} {Q : Option Value → (Nat → Nat → Int32) → (Nat → Int64) → Prop} {Ln : Nat} {xs : Nat → Int32} {s0 : Int32}  (K1 : (¬ s0 = (I 3136 0)) → XT (50, 1188) Ln xs mL_law 817 [] [] I L Q) (K2 : (s0 = (I 3136 0)) → XT (50, 1188) Ln xs mL_law 734 [(1, .ref 0)] [] I L Q) : XT (50, 1188) Ln xs mL_law 728 [(1, .ref 0), (2, .ref 49)] [.int s0] I L Q := by
  refine x_aload_n 1 dL_law_728 rfl rfl ?_
  refine x_iconst (v := (0 : Int32)) dL_law_729 (by decide) ?_
  refine xt_iald 3136 (0) dL_law_730 sh_49 rfl (by decide) (x_vpin (by decide)) ?_
  exact x_icmp_ne 817 dL_law_731 (by decide) (fun h => x_sub [] rfl (K1 h)) (fun h => x_sub [0] rfl (K2 h))
theorem bL_law_734 {I : Nat → Nat → Int32} {L : Nat → Int64} {Q : Option Value → (Nat → Nat → Int32) → (Nat → Int64) → Prop} {Ln : Nat} {xs : Nat → Int32}   (K : XS mX9_count 0 [(0, .ref 0), (1, .int (1 : Int32))] [] I L (fun r I' L' => XT (50, 1188) Ln xs mL_law 739 [(1, .ref 0)] (r.toList ++ []) I' L' Q)) : XT (50, 1188) Ln xs mL_law 734 [(1, .ref 0)] [] I L Q := by
  refine x_aload_n 0 dL_law_734 rfl rfl ?_
  refine x_iconst (v := (1 : Int32)) dL_law_735 (by decide) ?_
  exact xt_callV mX9_count [.int (1 : Int32)] [] 0 9 1 _ rfl dL_law_736 ml_L_39 qX9_count rfl ⟨Nat.le_of_ble_eq_true rfl, Nat.le_of_ble_eq_true rfl⟩ ⟨Nat.le_of_ble_eq_true rfl, Nat.le_of_ble_eq_true rfl⟩ ⟨rfl, rfl⟩ (Nat.le_of_ble_eq_true rfl) sh_0 (by decide) rfl (Nat.le_of_ble_eq_true rfl) (K)
theorem bL_law_739 {I : Nat → Nat → Int32} {L : Nat → Int64} {Q : Option Value → (Nat → Nat → Int32) → (Nat → Int64) → Prop} {Ln : Nat} {xs : Nat → Int32} {s0 : Int32}  (K1 : (¬ s0 = 0) → XT (50, 1188) Ln xs mL_law 817 [] [] I L Q) (K2 : (s0 = 0) → XT (50, 1188) Ln xs mL_law 742 [(1, .ref 0)] [] I L Q) : XT (50, 1188) Ln xs mL_law 739 [(1, .ref 0)] [.int s0] I L Q := by
  exact x_if_ne 817 dL_law_739 (by decide) (fun h => x_sub [] rfl (K1 h)) (fun h => K2 h)
theorem bL_law_742 {I : Nat → Nat → Int32} {L : Nat → Int64} {Q : Option Value → (Nat → Nat → Int32) → (Nat → Int64) → Prop} {Ln : Nat} {xs : Nat → Int32}   (K : XS mX9_count 0 [(0, .ref 0), (1, .int (4 : Int32))] [] I L (fun r I' L' => XT (50, 1188) Ln xs mL_law 747 [(1, .ref 0)] (r.toList ++ []) I' L' Q)) : XT (50, 1188) Ln xs mL_law 742 [(1, .ref 0)] [] I L Q := by
  refine x_aload_n 0 dL_law_742 rfl rfl ?_
  refine x_iconst (v := (4 : Int32)) dL_law_743 (by decide) ?_
  exact xt_callV mX9_count [.int (4 : Int32)] [] 0 9 1 _ rfl dL_law_744 ml_L_39 qX9_count rfl ⟨Nat.le_of_ble_eq_true rfl, Nat.le_of_ble_eq_true rfl⟩ ⟨Nat.le_of_ble_eq_true rfl, Nat.le_of_ble_eq_true rfl⟩ ⟨rfl, rfl⟩ (Nat.le_of_ble_eq_true rfl) sh_0 (by decide) rfl (Nat.le_of_ble_eq_true rfl) (K)
theorem bL_law_747 {I : Nat → Nat → Int32} {L : Nat → Int64} {Q : Option Value → (Nat → Nat → Int32) → (Nat → Int64) → Prop} {Ln : Nat} {xs : Nat → Int32} {s0 : Int32}  (K1 : (¬ s0 = 0) → XT (50, 1188) Ln xs mL_law 817 [] [] I L Q) (K2 : (s0 = 0) → XT (50, 1188) Ln xs mL_law 750 [(1, .ref 0)] [] I L Q) : XT (50, 1188) Ln xs mL_law 747 [(1, .ref 0)] [.int s0] I L Q := by
  exact x_if_ne 817 dL_law_747 (by decide) (fun h => x_sub [] rfl (K1 h)) (fun h => K2 h)
theorem bL_law_750 {I : Nat → Nat → Int32} {L : Nat → Int64} {Q : Option Value → (Nat → Nat → Int32) → (Nat → Int64) → Prop} {Ln : Nat} {xs : Nat → Int32}   (K : XS mX9_count 0 [(0, .ref 0), (1, .int (5 : Int32))] [] I L (fun r I' L' => XT (50, 1188) Ln xs mL_law 755 [(1, .ref 0)] (r.toList ++ []) I' L' Q)) : XT (50, 1188) Ln xs mL_law 750 [(1, .ref 0)] [] I L Q := by
  refine x_aload_n 0 dL_law_750 rfl rfl ?_
  refine x_iconst (v := (5 : Int32)) dL_law_751 (by decide) ?_
  exact xt_callV mX9_count [.int (5 : Int32)] [] 0 9 1 _ rfl dL_law_752 ml_L_39 qX9_count rfl ⟨Nat.le_of_ble_eq_true rfl, Nat.le_of_ble_eq_true rfl⟩ ⟨Nat.le_of_ble_eq_true rfl, Nat.le_of_ble_eq_true rfl⟩ ⟨rfl, rfl⟩ (Nat.le_of_ble_eq_true rfl) sh_0 (by decide) rfl (Nat.le_of_ble_eq_true rfl) (K)
theorem bL_law_755 {I : Nat → Nat → Int32} {L : Nat → Int64} {Q : Option Value → (Nat → Nat → Int32) → (Nat → Int64) → Prop} {Ln : Nat} {xs : Nat → Int32} {s0 : Int32}  (K1 : (¬ s0 = 0) → XT (50, 1188) Ln xs mL_law 817 [] [] I L Q) (K2 : (s0 = 0) → XT (50, 1188) Ln xs mL_law 758 [(1, .ref 0)] [] I L Q) : XT (50, 1188) Ln xs mL_law 755 [(1, .ref 0)] [.int s0] I L Q := by
  exact x_if_ne 817 dL_law_755 (by decide) (fun h => x_sub [] rfl (K1 h)) (fun h => K2 h)
theorem bL_law_758 {I : Nat → Nat → Int32} {L : Nat → Int64} {Q : Option Value → (Nat → Nat → Int32) → (Nat → Int64) → Prop} {Ln : Nat} {xs : Nat → Int32}   (K : XS mX9_count 0 [(0, .ref 0), (1, .int (6 : Int32))] [] I L (fun r I' L' => XT (50, 1188) Ln xs mL_law 764 [(1, .ref 0)] (r.toList ++ []) I' L' Q)) : XT (50, 1188) Ln xs mL_law 758 [(1, .ref 0)] [] I L Q := by
  refine x_aload_n 0 dL_law_758 rfl rfl ?_
  refine x_bipush (v := (6 : Int32)) dL_law_759 (by decide) ?_
  exact xt_callV mX9_count [.int (6 : Int32)] [] 0 9 1 _ rfl dL_law_761 ml_L_39 qX9_count rfl ⟨Nat.le_of_ble_eq_true rfl, Nat.le_of_ble_eq_true rfl⟩ ⟨Nat.le_of_ble_eq_true rfl, Nat.le_of_ble_eq_true rfl⟩ ⟨rfl, rfl⟩ (Nat.le_of_ble_eq_true rfl) sh_0 (by decide) rfl (Nat.le_of_ble_eq_true rfl) (K)
theorem bL_law_764 {I : Nat → Nat → Int32} {L : Nat → Int64} {Q : Option Value → (Nat → Nat → Int32) → (Nat → Int64) → Prop} {Ln : Nat} {xs : Nat → Int32} {s0 : Int32}  (K1 : (¬ s0 = 0) → XT (50, 1188) Ln xs mL_law 817 [] [] I L Q) (K2 : (s0 = 0) → XT (50, 1188) Ln xs mL_law 767 [(1, .ref 0)] [] I L Q) : XT (50, 1188) Ln xs mL_law 764 [(1, .ref 0)] [.int s0] I L Q := by
  exact x_if_ne 817 dL_law_764 (by decide) (fun h => x_sub [] rfl (K1 h)) (fun h => K2 h)
theorem bL_law_767 {I : Nat → Nat → Int32} {L : Nat → Int64} {Q : Option Value → (Nat → Nat → Int32) → (Nat → Int64) → Prop} {Ln : Nat} {xs : Nat → Int32}   (K : XS mX9_count 0 [(0, .ref 0), (1, .int (7 : Int32))] [] I L (fun r I' L' => XT (50, 1188) Ln xs mL_law 773 [(1, .ref 0)] (r.toList ++ []) I' L' Q)) : XT (50, 1188) Ln xs mL_law 767 [(1, .ref 0)] [] I L Q := by
  refine x_aload_n 0 dL_law_767 rfl rfl ?_
  refine x_bipush (v := (7 : Int32)) dL_law_768 (by decide) ?_
  exact xt_callV mX9_count [.int (7 : Int32)] [] 0 9 1 _ rfl dL_law_770 ml_L_39 qX9_count rfl ⟨Nat.le_of_ble_eq_true rfl, Nat.le_of_ble_eq_true rfl⟩ ⟨Nat.le_of_ble_eq_true rfl, Nat.le_of_ble_eq_true rfl⟩ ⟨rfl, rfl⟩ (Nat.le_of_ble_eq_true rfl) sh_0 (by decide) rfl (Nat.le_of_ble_eq_true rfl) (K)
theorem bL_law_773 {I : Nat → Nat → Int32} {L : Nat → Int64} {Q : Option Value → (Nat → Nat → Int32) → (Nat → Int64) → Prop} {Ln : Nat} {xs : Nat → Int32} {s0 : Int32}  (K1 : (¬ s0 = 0) → XT (50, 1188) Ln xs mL_law 817 [] [] I L Q) (K2 : (s0 = 0) → XT (50, 1188) Ln xs mL_law 776 [(1, .ref 0)] [] I L Q) : XT (50, 1188) Ln xs mL_law 773 [(1, .ref 0)] [.int s0] I L Q := by
  exact x_if_ne 817 dL_law_773 (by decide) (fun h => x_sub [] rfl (K1 h)) (fun h => K2 h)
theorem bL_law_776 {I : Nat → Nat → Int32} {L : Nat → Int64} {Q : Option Value → (Nat → Nat → Int32) → (Nat → Int64) → Prop} {Ln : Nat} {xs : Nat → Int32}   (K : XS mX9_count 0 [(0, .ref 0), (1, .int (13 : Int32))] [] I L (fun r I' L' => XT (50, 1188) Ln xs mL_law 782 [(1, .ref 0)] (r.toList ++ []) I' L' Q)) : XT (50, 1188) Ln xs mL_law 776 [(1, .ref 0)] [] I L Q := by
  refine x_aload_n 0 dL_law_776 rfl rfl ?_
  refine x_bipush (v := (13 : Int32)) dL_law_777 (by decide) ?_
  exact xt_callV mX9_count [.int (13 : Int32)] [] 0 9 1 _ rfl dL_law_779 ml_L_39 qX9_count rfl ⟨Nat.le_of_ble_eq_true rfl, Nat.le_of_ble_eq_true rfl⟩ ⟨Nat.le_of_ble_eq_true rfl, Nat.le_of_ble_eq_true rfl⟩ ⟨rfl, rfl⟩ (Nat.le_of_ble_eq_true rfl) sh_0 (by decide) rfl (Nat.le_of_ble_eq_true rfl) (K)
theorem bL_law_782 {I : Nat → Nat → Int32} {L : Nat → Int64} {Q : Option Value → (Nat → Nat → Int32) → (Nat → Int64) → Prop} {Ln : Nat} {xs : Nat → Int32} {s0 : Int32}  (K1 : (¬ s0 = 0) → XT (50, 1188) Ln xs mL_law 817 [] [] I L Q) (K2 : (s0 = 0) → XT (50, 1188) Ln xs mL_law 785 [(1, .ref 0)] [] I L Q) : XT (50, 1188) Ln xs mL_law 782 [(1, .ref 0)] [.int s0] I L Q := by
  exact x_if_ne 817 dL_law_782 (by decide) (fun h => x_sub [] rfl (K1 h)) (fun h => K2 h)
theorem bL_law_785 {I : Nat → Nat → Int32} {L : Nat → Int64} {Q : Option Value → (Nat → Nat → Int32) → (Nat → Int64) → Prop} {Ln : Nat} {xs : Nat → Int32}   (K : XS mX9_way 0 [(0, .ref 0), (1, .int (-1 : Int32))] [] I L (fun r I' L' => XT (50, 1188) Ln xs mL_law 790 [(1, .ref 0)] (r.toList ++ []) I' L' Q)) : XT (50, 1188) Ln xs mL_law 785 [(1, .ref 0)] [] I L Q := by
  refine x_aload_n 0 dL_law_785 rfl rfl ?_
  refine x_iconst (v := (-1 : Int32)) dL_law_786 (by decide) ?_
  exact xt_callV mX9_way [.int (-1 : Int32)] [] 0 9 1 _ rfl dL_law_787 ml_L_119 qX9_way rfl ⟨Nat.le_of_ble_eq_true rfl, Nat.le_of_ble_eq_true rfl⟩ ⟨Nat.le_of_ble_eq_true rfl, Nat.le_of_ble_eq_true rfl⟩ ⟨rfl, rfl⟩ (Nat.le_of_ble_eq_true rfl) sh_0 (by decide) rfl (Nat.le_of_ble_eq_true rfl) (K)
theorem bL_law_790 {I : Nat → Nat → Int32} {L : Nat → Int64} {Q : Option Value → (Nat → Nat → Int32) → (Nat → Int64) → Prop} {Ln : Nat} {xs : Nat → Int32} {s0 : Int32}  (K1 : (¬ s0 = (-1 : Int32)) → XT (50, 1188) Ln xs mL_law 817 [] [] I L Q) (K2 : (s0 = (-1 : Int32)) → XT (50, 1188) Ln xs mL_law 794 [(1, .ref 0)] [] I L Q) : XT (50, 1188) Ln xs mL_law 790 [(1, .ref 0)] [.int s0] I L Q := by
  refine x_iconst (v := (-1 : Int32)) dL_law_790 (by decide) ?_
  exact x_icmp_ne 817 dL_law_791 (by decide) (fun h => x_sub [] rfl (K1 h)) (fun h => K2 h)
theorem bL_law_794 {I : Nat → Nat → Int32} {L : Nat → Int64} {Q : Option Value → (Nat → Nat → Int32) → (Nat → Int64) → Prop} {Ln : Nat} {xs : Nat → Int32}   (K : XS mX9_seen 0 [(0, .ref 0), (1, .int (0 : Int32))] [] I L (fun r I' L' => XT (50, 1188) Ln xs mL_law 799 [(1, .ref 0)] (r.toList ++ []) I' L' Q)) : XT (50, 1188) Ln xs mL_law 794 [(1, .ref 0)] [] I L Q := by
  refine x_aload_n 0 dL_law_794 rfl rfl ?_
  refine x_iconst (v := (0 : Int32)) dL_law_795 (by decide) ?_
  exact xt_callV mX9_seen [.int (0 : Int32)] [] 0 9 1 _ rfl dL_law_796 ml_L_55 qX9_seen rfl ⟨Nat.le_of_ble_eq_true rfl, Nat.le_of_ble_eq_true rfl⟩ ⟨Nat.le_of_ble_eq_true rfl, Nat.le_of_ble_eq_true rfl⟩ ⟨rfl, rfl⟩ (Nat.le_of_ble_eq_true rfl) sh_0 (by decide) rfl (Nat.le_of_ble_eq_true rfl) (K)
theorem bL_law_799 {I : Nat → Nat → Int32} {L : Nat → Int64} {Q : Option Value → (Nat → Nat → Int32) → (Nat → Int64) → Prop} {Ln : Nat} {xs : Nat → Int32} {s0 : Int32}  (K1 : (¬ s0 = 0) → XT (50, 1188) Ln xs mL_law 817 [] [] I L Q) (K2 : (s0 = 0) → XT (50, 1188) Ln xs mL_law 802 [(1, .ref 0)] [] I L Q) : XT (50, 1188) Ln xs mL_law 799 [(1, .ref 0)] [.int s0] I L Q := by
  exact x_if_ne 817 dL_law_799 (by decide) (fun h => x_sub [] rfl (K1 h)) (fun h => K2 h)
theorem bL_law_802 {I : Nat → Nat → Int32} {L : Nat → Int64} {Q : Option Value → (Nat → Nat → Int32) → (Nat → Int64) → Prop} {Ln : Nat} {xs : Nat → Int32}   (K : XS mX9_link 0 [(0, .ref 0), (1, .int (0 : Int32)), (2, .int (0 : Int32))] [] I L (fun r I' L' => XT (50, 1188) Ln xs mL_law 808 [] (r.toList ++ []) I' L' Q)) : XT (50, 1188) Ln xs mL_law 802 [(1, .ref 0)] [] I L Q := by
  refine x_aload_n 0 dL_law_802 rfl rfl ?_
  refine x_iconst (v := (0 : Int32)) dL_law_803 (by decide) ?_
  refine x_iconst (v := (0 : Int32)) dL_law_804 (by decide) ?_
  refine x_sub [] rfl ?_
  exact xt_callV mX9_link [.int (0 : Int32), .int (0 : Int32)] [] 0 9 2 _ rfl dL_law_805 ml_L_52 qX9_link rfl ⟨Nat.le_of_ble_eq_true rfl, Nat.le_of_ble_eq_true rfl⟩ ⟨Nat.le_of_ble_eq_true rfl, Nat.le_of_ble_eq_true rfl⟩ ⟨rfl, rfl⟩ (Nat.le_of_ble_eq_true rfl) sh_0 (by decide) rfl (Nat.le_of_ble_eq_true rfl) (K)
theorem bL_law_808 {I : Nat → Nat → Int32} {L : Nat → Int64} {Q : Option Value → (Nat → Nat → Int32) → (Nat → Int64) → Prop} {Ln : Nat} {xs : Nat → Int32} {s0 : Int32}  (K1 : (¬ s0 = (-2 : Int32)) → XT (50, 1188) Ln xs mL_law 817 [] [] I L Q) (K2 : (s0 = (-2 : Int32)) → XT (50, 1188) Ln xs mL_law 813 [] [] I L Q) : XT (50, 1188) Ln xs mL_law 808 [] [.int s0] I L Q := by
  refine x_bipush (v := (-2 : Int32)) dL_law_808 (by decide) ?_
  exact x_icmp_ne 817 dL_law_810 (by decide) (fun h => K1 h) (fun h => K2 h)
theorem bL_law_813 {I : Nat → Nat → Int32} {L : Nat → Int64} {Q : Option Value → (Nat → Nat → Int32) → (Nat → Int64) → Prop} {Ln : Nat} {xs : Nat → Int32}   (K : XT (50, 1188) Ln xs mL_law 818 [] [.int (1 : Int32)] I L Q) : XT (50, 1188) Ln xs mL_law 813 [] [] I L Q := by
  refine x_iconst (v := (1 : Int32)) dL_law_813 (by decide) ?_
  exact x_goto 818 dL_law_814 (by decide) (K)
theorem bL_law_817 {I : Nat → Nat → Int32} {L : Nat → Int64} {Q : Option Value → (Nat → Nat → Int32) → (Nat → Int64) → Prop} {Ln : Nat} {xs : Nat → Int32}   (K : XT (50, 1188) Ln xs mL_law 818 [] [.int (0 : Int32)] I L Q) : XT (50, 1188) Ln xs mL_law 817 [] [] I L Q := by
  refine x_iconst (v := (0 : Int32)) dL_law_817 (by decide) ?_
  exact K
theorem bL_law_818 {I : Nat → Nat → Int32} {L : Nat → Int64} {Q : Option Value → (Nat → Nat → Int32) → (Nat → Int64) → Prop} {Ln : Nat} {xs : Nat → Int32} {s0 : Int32} (hz1 : s0 = 0 ∨ s0 = 1) (K : Q (some (.int s0)) I L) : XT (50, 1188) Ln xs mL_law 818 [] [.int s0] I L Q := by
  exact xt_iret dL_law_818 rfl (x_nar _ hz1) K
