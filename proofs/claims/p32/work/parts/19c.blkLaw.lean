/-! ===== blocks ===== -/
theorem bL_most_0 {I : Nat → Nat → Int32} {L : Nat → Int64} {Q : Option Value → (Nat → Nat → Int32) → (Nat → Int64) → Prop}   (K : XS mX9_erase 0 [(0, .ref 0)] [] I L (fun r I' L' => XS mL_most 4 [(0, .ref 0)] (r.toList ++ []) I' L' Q)) : XS mL_most 0 [(0, .ref 0)] [] I L Q := by
  refine x_aload_n 0 dL_most_0 rfl rfl ?_
  exact xs_callV mX9_erase [] [] 0 9 0 _ rfl dL_most_1 ml_L_19 qX9_erase rfl ⟨Nat.le_of_ble_eq_true rfl, Nat.le_of_ble_eq_true rfl⟩ ⟨rfl, rfl⟩ (Nat.le_of_ble_eq_true rfl) sh_0 (by decide) rfl (Nat.le_of_ble_eq_true rfl) (K)
theorem bL_most_4 {I : Nat → Nat → Int32} {L : Nat → Int64} {Q : Option Value → (Nat → Nat → Int32) → (Nat → Int64) → Prop} {s0 : Int32}  (K : XS mL_says 0 [(0, .ref 0), (1, .int (110 : Int32)), (2, .int (111 : Int32)), (3, .int (100 : Int32)), (4, .int (101 : Int32))] [] I L (fun r I' L' => XS mL_most 17 [(0, .ref 0)] (r.toList ++ []) I' L' Q)) : XS mL_most 4 [(0, .ref 0)] [.int s0] I L Q := by
  refine x_pop dL_most_4 rfl ?_
  refine x_aload_n 0 dL_most_5 rfl rfl ?_
  refine x_bipush (v := (110 : Int32)) dL_most_6 (by decide) ?_
  refine x_bipush (v := (111 : Int32)) dL_most_8 (by decide) ?_
  refine x_bipush (v := (100 : Int32)) dL_most_10 (by decide) ?_
  refine x_bipush (v := (101 : Int32)) dL_most_12 (by decide) ?_
  exact xs_callS mL_says [.ref 0, .int (110 : Int32), .int (111 : Int32), .int (100 : Int32), .int (101 : Int32)] [] 5 _ rfl dL_most_14 ml_L_25 qL_says rfl ⟨Nat.le_of_ble_eq_true rfl, Nat.le_of_ble_eq_true rfl⟩ ⟨rfl, rfl⟩ (Nat.le_of_ble_eq_true rfl) (Nat.le_of_ble_eq_true rfl) (K)
theorem bL_most_17 {I : Nat → Nat → Int32} {L : Nat → Int64} {Q : Option Value → (Nat → Nat → Int32) → (Nat → Int64) → Prop}   (K : XS mL_says 0 [(0, .ref 0), (1, .int (115 : Int32)), (2, .int (56 : Int32)), (3, .int (32 : Int32)), (4, .int (32 : Int32))] [] I L (fun r I' L' => XS mL_most 29 [(0, .ref 0)] (r.toList ++ []) I' L' Q)) : XS mL_most 17 [(0, .ref 0)] [] I L Q := by
  refine x_aload_n 0 dL_most_17 rfl rfl ?_
  refine x_bipush (v := (115 : Int32)) dL_most_18 (by decide) ?_
  refine x_bipush (v := (56 : Int32)) dL_most_20 (by decide) ?_
  refine x_bipush (v := (32 : Int32)) dL_most_22 (by decide) ?_
  refine x_bipush (v := (32 : Int32)) dL_most_24 (by decide) ?_
  exact xs_callS mL_says [.ref 0, .int (115 : Int32), .int (56 : Int32), .int (32 : Int32), .int (32 : Int32)] [] 5 _ rfl dL_most_26 ml_L_25 qL_says rfl ⟨Nat.le_of_ble_eq_true rfl, Nat.le_of_ble_eq_true rfl⟩ ⟨rfl, rfl⟩ (Nat.le_of_ble_eq_true rfl) (Nat.le_of_ble_eq_true rfl) (K)
theorem bL_most_29 {I : Nat → Nat → Int32} {L : Nat → Int64} {Q : Option Value → (Nat → Nat → Int32) → (Nat → Int64) → Prop}   (K : XS mL_most 31 [(0, .ref 0), (1, .int (0 : Int32))] [] I L Q) : XS mL_most 29 [(0, .ref 0)] [] I L Q := by
  refine x_iconst (v := (0 : Int32)) dL_most_29 (by decide) ?_
  refine x_istore_n [(0, .ref 0), (1, .int (0 : Int32))] dL_most_30 rfl (Nat.le_of_ble_eq_true rfl) rfl ?_
  exact K
theorem bL_most_31 {I : Nat → Nat → Int32} {L : Nat → Int64} {Q : Option Value → (Nat → Nat → Int32) → (Nat → Int64) → Prop} {v1 : Int32}  (K1 : ((14 : Int32) ≤ v1) → XS mL_most 128 [(0, .ref 0)] [] I L Q) (K2 : (¬ (14 : Int32) ≤ v1) → XS mL_most 37 [(0, .ref 0), (1, .int v1)] [] I L Q) : XS mL_most 31 [(0, .ref 0), (1, .int v1)] [] I L Q := by
  refine x_iload_n 1 dL_most_31 rfl rfl ?_
  refine x_bipush (v := (14 : Int32)) dL_most_32 (by decide) ?_
  exact x_icmp_ge 128 dL_most_34 (by decide) (fun h => x_sub [0] rfl (K1 h)) (fun h => K2 h)
theorem bL_most_37 {I : Nat → Nat → Int32} {L : Nat → Int64} {Q : Option Value → (Nat → Nat → Int32) → (Nat → Int64) → Prop} {v1 : Int32}  (K : XS mL_says 0 [(0, .ref 0), (1, .int (59 : Int32)), (2, .int (108 : Int32)), (3, .int (105 : Int32)), (4, .int (110 : Int32))] [] I L (fun r I' L' => XS mL_most 49 [(0, .ref 0), (1, .int v1)] (r.toList ++ []) I' L' Q)) : XS mL_most 37 [(0, .ref 0), (1, .int v1)] [] I L Q := by
  refine x_aload_n 0 dL_most_37 rfl rfl ?_
  refine x_bipush (v := (59 : Int32)) dL_most_38 (by decide) ?_
  refine x_bipush (v := (108 : Int32)) dL_most_40 (by decide) ?_
  refine x_bipush (v := (105 : Int32)) dL_most_42 (by decide) ?_
  refine x_bipush (v := (110 : Int32)) dL_most_44 (by decide) ?_
  exact xs_callS mL_says [.ref 0, .int (59 : Int32), .int (108 : Int32), .int (105 : Int32), .int (110 : Int32)] [] 5 _ rfl dL_most_46 ml_L_25 qL_says rfl ⟨Nat.le_of_ble_eq_true rfl, Nat.le_of_ble_eq_true rfl⟩ ⟨rfl, rfl⟩ (Nat.le_of_ble_eq_true rfl) (Nat.le_of_ble_eq_true rfl) (K)
theorem bL_most_49 {I : Nat → Nat → Int32} {L : Nat → Int64} {Q : Option Value → (Nat → Nat → Int32) → (Nat → Int64) → Prop} {v1 : Int32}  (K1 : ((7 : Int32) ≤ v1) → XS mL_most 64 [(0, .ref 0), (1, .int v1)] [.int (48 : Int32), .int (107 : Int32), .ref 0] I L Q) (K2 : (¬ (7 : Int32) ≤ v1) → XS mL_most 60 [(0, .ref 0), (1, .int v1)] [.int (48 : Int32), .int (107 : Int32), .ref 0] I L Q) : XS mL_most 49 [(0, .ref 0), (1, .int v1)] [] I L Q := by
  refine x_aload_n 0 dL_most_49 rfl rfl ?_
  refine x_bipush (v := (107 : Int32)) dL_most_50 (by decide) ?_
  refine x_bipush (v := (48 : Int32)) dL_most_52 (by decide) ?_
  refine x_iload_n 1 dL_most_54 rfl rfl ?_
  refine x_bipush (v := (7 : Int32)) dL_most_55 (by decide) ?_
  exact x_icmp_ge 64 dL_most_57 (by decide) (fun h => K1 h) (fun h => K2 h)
theorem bL_most_60 {I : Nat → Nat → Int32} {L : Nat → Int64} {Q : Option Value → (Nat → Nat → Int32) → (Nat → Int64) → Prop} {v1 : Int32} {s1 : Int32} {s2 : Int32}  (K : XS mL_most 65 [(0, .ref 0), (1, .int v1)] [.int (0 : Int32), .int s2, .int s1, .ref 0] I L Q) : XS mL_most 60 [(0, .ref 0), (1, .int v1)] [.int s2, .int s1, .ref 0] I L Q := by
  refine x_iconst (v := (0 : Int32)) dL_most_60 (by decide) ?_
  exact x_goto 65 dL_most_61 (by decide) (K)
theorem bL_most_64 {I : Nat → Nat → Int32} {L : Nat → Int64} {Q : Option Value → (Nat → Nat → Int32) → (Nat → Int64) → Prop} {v1 : Int32} {s1 : Int32} {s2 : Int32}  (K : XS mL_most 65 [(0, .ref 0), (1, .int v1)] [.int (1 : Int32), .int s2, .int s1, .ref 0] I L Q) : XS mL_most 64 [(0, .ref 0), (1, .int v1)] [.int s2, .int s1, .ref 0] I L Q := by
  refine x_iconst (v := (1 : Int32)) dL_most_64 (by decide) ?_
  exact K
theorem bL_most_65 {I : Nat → Nat → Int32} {L : Nat → Int64} {Q : Option Value → (Nat → Nat → Int32) → (Nat → Int64) → Prop} {v1 : Int32} {s1 : Int32} {s2 : Int32} {s3 : Int32}  (K1 : ((7 : Int32) ≤ v1) → XS mL_most 81 [(0, .ref 0), (1, .int v1)] [.int (32 : Int32), .int (s2 + s3), .int s1, .ref 0] I L Q) (K2 : (¬ (7 : Int32) ≤ v1) → XS mL_most 74 [(0, .ref 0), (1, .int v1)] [.int (32 : Int32), .int (s2 + s3), .int s1, .ref 0] I L Q) : XS mL_most 65 [(0, .ref 0), (1, .int v1)] [.int s3, .int s2, .int s1, .ref 0] I L Q := by
  refine x_iadd dL_most_65 ?_
  refine x_bipush (v := (32 : Int32)) dL_most_66 (by decide) ?_
  refine x_iload_n 1 dL_most_68 rfl rfl ?_
  refine x_bipush (v := (7 : Int32)) dL_most_69 (by decide) ?_
  exact x_icmp_ge 81 dL_most_71 (by decide) (fun h => K1 h) (fun h => K2 h)
theorem bL_most_74 {I : Nat → Nat → Int32} {L : Nat → Int64} {Q : Option Value → (Nat → Nat → Int32) → (Nat → Int64) → Prop} {v1 : Int32} {s1 : Int32} {s2 : Int32} {s3 : Int32}  (K : XS mL_most 96 [(0, .ref 0), (1, .int v1)] [.int ((49 : Int32) + v1), .int s3, .int s2, .int s1, .ref 0] I L Q) : XS mL_most 74 [(0, .ref 0), (1, .int v1)] [.int s3, .int s2, .int s1, .ref 0] I L Q := by
  refine x_bipush (v := (49 : Int32)) dL_most_74 (by decide) ?_
  refine x_iload_n 1 dL_most_76 rfl rfl ?_
  refine x_iadd dL_most_77 ?_
  exact x_goto 96 dL_most_78 (by decide) (K)
theorem bL_most_81 {I : Nat → Nat → Int32} {L : Nat → Int64} {Q : Option Value → (Nat → Nat → Int32) → (Nat → Int64) → Prop} {v1 : Int32} {s1 : Int32} {s2 : Int32} {s3 : Int32}  (K1 : ((13 : Int32) ≤ v1) → XS mL_most 94 [(0, .ref 0), (1, .int v1)] [.int s3, .int s2, .int s1, .ref 0] I L Q) (K2 : (¬ (13 : Int32) ≤ v1) → XS mL_most 87 [(0, .ref 0), (1, .int v1)] [.int s3, .int s2, .int s1, .ref 0] I L Q) : XS mL_most 81 [(0, .ref 0), (1, .int v1)] [.int s3, .int s2, .int s1, .ref 0] I L Q := by
  refine x_iload_n 1 dL_most_81 rfl rfl ?_
  refine x_bipush (v := (13 : Int32)) dL_most_82 (by decide) ?_
  exact x_icmp_ge 94 dL_most_84 (by decide) (fun h => K1 h) (fun h => K2 h)
theorem bL_most_87 {I : Nat → Nat → Int32} {L : Nat → Int64} {Q : Option Value → (Nat → Nat → Int32) → (Nat → Int64) → Prop} {v1 : Int32} {s1 : Int32} {s2 : Int32} {s3 : Int32}  (K : XS mL_most 96 [(0, .ref 0), (1, .int v1)] [.int ((43 : Int32) + v1), .int s3, .int s2, .int s1, .ref 0] I L Q) : XS mL_most 87 [(0, .ref 0), (1, .int v1)] [.int s3, .int s2, .int s1, .ref 0] I L Q := by
  refine x_bipush (v := (43 : Int32)) dL_most_87 (by decide) ?_
  refine x_iload_n 1 dL_most_89 rfl rfl ?_
  refine x_iadd dL_most_90 ?_
  exact x_goto 96 dL_most_91 (by decide) (K)
theorem bL_most_94 {I : Nat → Nat → Int32} {L : Nat → Int64} {Q : Option Value → (Nat → Nat → Int32) → (Nat → Int64) → Prop} {v1 : Int32} {s1 : Int32} {s2 : Int32} {s3 : Int32}  (K : XS mL_most 96 [(0, .ref 0), (1, .int v1)] [.int (48 : Int32), .int s3, .int s2, .int s1, .ref 0] I L Q) : XS mL_most 94 [(0, .ref 0), (1, .int v1)] [.int s3, .int s2, .int s1, .ref 0] I L Q := by
  refine x_bipush (v := (48 : Int32)) dL_most_94 (by decide) ?_
  exact K
theorem bL_most_96 {I : Nat → Nat → Int32} {L : Nat → Int64} {Q : Option Value → (Nat → Nat → Int32) → (Nat → Int64) → Prop} {v1 : Int32} {s1 : Int32} {s2 : Int32} {s3 : Int32} {s4 : Int32}  (K : XS mL_says 0 [(0, .ref 0), (1, .int s1), (2, .int s2), (3, .int s3), (4, .int s4)] [] I L (fun r I' L' => XS mL_most 99 [(0, .ref 0), (1, .int v1)] (r.toList ++ []) I' L' Q)) : XS mL_most 96 [(0, .ref 0), (1, .int v1)] [.int s4, .int s3, .int s2, .int s1, .ref 0] I L Q := by
  exact xs_callS mL_says [.ref 0, .int s1, .int s2, .int s3, .int s4] [] 5 _ rfl dL_most_96 ml_L_25 qL_says rfl ⟨Nat.le_of_ble_eq_true rfl, Nat.le_of_ble_eq_true rfl⟩ ⟨rfl, rfl⟩ (Nat.le_of_ble_eq_true rfl) (Nat.le_of_ble_eq_true rfl) (K)
theorem bL_most_99 {I : Nat → Nat → Int32} {L : Nat → Int64} {Q : Option Value → (Nat → Nat → Int32) → (Nat → Int64) → Prop} {v1 : Int32}  (K1 : ((13 : Int32) ≤ v1) → XS mL_most 113 [(0, .ref 0), (1, .int v1)] [.int (32 : Int32), .ref 0] I L Q) (K2 : (¬ (13 : Int32) ≤ v1) → XS mL_most 108 [(0, .ref 0), (1, .int v1)] [.int (32 : Int32), .ref 0] I L Q) : XS mL_most 99 [(0, .ref 0), (1, .int v1)] [] I L Q := by
  refine x_aload_n 0 dL_most_99 rfl rfl ?_
  refine x_bipush (v := (32 : Int32)) dL_most_100 (by decide) ?_
  refine x_iload_n 1 dL_most_102 rfl rfl ?_
  refine x_bipush (v := (13 : Int32)) dL_most_103 (by decide) ?_
  exact x_icmp_ge 113 dL_most_105 (by decide) (fun h => K1 h) (fun h => K2 h)
theorem bL_most_108 {I : Nat → Nat → Int32} {L : Nat → Int64} {Q : Option Value → (Nat → Nat → Int32) → (Nat → Int64) → Prop} {v1 : Int32} {s1 : Int32}  (K : XS mL_most 115 [(0, .ref 0), (1, .int v1)] [.int (49 : Int32), .int s1, .ref 0] I L Q) : XS mL_most 108 [(0, .ref 0), (1, .int v1)] [.int s1, .ref 0] I L Q := by
  refine x_bipush (v := (49 : Int32)) dL_most_108 (by decide) ?_
  exact x_goto 115 dL_most_110 (by decide) (K)
theorem bL_most_113 {I : Nat → Nat → Int32} {L : Nat → Int64} {Q : Option Value → (Nat → Nat → Int32) → (Nat → Int64) → Prop} {v1 : Int32} {s1 : Int32}  (K : XS mL_most 115 [(0, .ref 0), (1, .int v1)] [.int (53 : Int32), .int s1, .ref 0] I L Q) : XS mL_most 113 [(0, .ref 0), (1, .int v1)] [.int s1, .ref 0] I L Q := by
  refine x_bipush (v := (53 : Int32)) dL_most_113 (by decide) ?_
  exact K
theorem bL_most_115 {I : Nat → Nat → Int32} {L : Nat → Int64} {Q : Option Value → (Nat → Nat → Int32) → (Nat → Int64) → Prop} {v1 : Int32} {s1 : Int32} {s2 : Int32}  (K : XS mL_says 0 [(0, .ref 0), (1, .int s1), (2, .int s2), (3, .int (32 : Int32)), (4, .int (50 : Int32))] [] I L (fun r I' L' => XS mL_most 122 [(0, .ref 0), (1, .int v1)] (r.toList ++ []) I' L' Q)) : XS mL_most 115 [(0, .ref 0), (1, .int v1)] [.int s2, .int s1, .ref 0] I L Q := by
  refine x_bipush (v := (32 : Int32)) dL_most_115 (by decide) ?_
  refine x_bipush (v := (50 : Int32)) dL_most_117 (by decide) ?_
  exact xs_callS mL_says [.ref 0, .int s1, .int s2, .int (32 : Int32), .int (50 : Int32)] [] 5 _ rfl dL_most_119 ml_L_25 qL_says rfl ⟨Nat.le_of_ble_eq_true rfl, Nat.le_of_ble_eq_true rfl⟩ ⟨rfl, rfl⟩ (Nat.le_of_ble_eq_true rfl) (Nat.le_of_ble_eq_true rfl) (K)
theorem bL_most_122 {I : Nat → Nat → Int32} {L : Nat → Int64} {Q : Option Value → (Nat → Nat → Int32) → (Nat → Int64) → Prop} {v1 : Int32}  (K : XS mL_most 31 [(0, .ref 0), (1, .int (v1 + (1 : Int32)))] [] I L Q) : XS mL_most 122 [(0, .ref 0), (1, .int v1)] [] I L Q := by
  refine x_iinc 1 (v1 + (1 : Int32)) [(0, .ref 0), (1, .int (v1 + (1 : Int32)))] dL_most_122 rfl rfl (Nat.le_of_ble_eq_true rfl) rfl ?_
  exact x_goto 31 dL_most_125 (by decide) (K)
theorem bL_most_128 {I : Nat → Nat → Int32} {L : Nat → Int64} {Q : Option Value → (Nat → Nat → Int32) → (Nat → Int64) → Prop}   (K : XS mX9_fault 0 [(0, .ref 0)] [] I L (fun r I' L' => XS mL_most 132 [(0, .ref 0)] (r.toList ++ []) I' L' Q)) : XS mL_most 128 [(0, .ref 0)] [] I L Q := by
  refine x_aload_n 0 dL_most_128 rfl rfl ?_
  exact xs_callV mX9_fault [] [] 0 9 0 _ rfl dL_most_129 ml_L_33 qX9_fault rfl ⟨Nat.le_of_ble_eq_true rfl, Nat.le_of_ble_eq_true rfl⟩ ⟨rfl, rfl⟩ (Nat.le_of_ble_eq_true rfl) sh_0 (by decide) rfl (Nat.le_of_ble_eq_true rfl) (K)
theorem bL_most_132 {I : Nat → Nat → Int32} {L : Nat → Int64} {Q : Option Value → (Nat → Nat → Int32) → (Nat → Int64) → Prop} {s0 : Int32}  (K1 : (¬ s0 = (-1 : Int32)) → XS mL_most 175 [] [] I L Q) (K2 : (s0 = (-1 : Int32)) → XS mL_most 136 [(0, .ref 0)] [] I L Q) : XS mL_most 132 [(0, .ref 0)] [.int s0] I L Q := by
  refine x_iconst (v := (-1 : Int32)) dL_most_132 (by decide) ?_
  exact x_icmp_ne 175 dL_most_133 (by decide) (fun h => x_sub [] rfl (K1 h)) (fun h => K2 h)
theorem bL_most_136 {I : Nat → Nat → Int32} {L : Nat → Int64} {Q : Option Value → (Nat → Nat → Int32) → (Nat → Int64) → Prop}   (K : XS mX9_tell 0 [(0, .ref 0)] [] I L (fun r I' L' => XS mL_most 140 [(0, .ref 0)] (r.toList ++ []) I' L' Q)) : XS mL_most 136 [(0, .ref 0)] [] I L Q := by
  refine x_aload_n 0 dL_most_136 rfl rfl ?_
  exact xs_callV mX9_tell [] [] 0 9 0 _ rfl dL_most_137 ml_L_36 qX9_tell rfl ⟨Nat.le_of_ble_eq_true rfl, Nat.le_of_ble_eq_true rfl⟩ ⟨rfl, rfl⟩ (Nat.le_of_ble_eq_true rfl) sh_0 (by decide) rfl (Nat.le_of_ble_eq_true rfl) (K)
theorem bL_most_140 {I : Nat → Nat → Int32} {L : Nat → Int64} {Q : Option Value → (Nat → Nat → Int32) → (Nat → Int64) → Prop} {s0 : Int32}  (K1 : (¬ s0 = (15 : Int32)) → XS mL_most 175 [] [] I L Q) (K2 : (s0 = (15 : Int32)) → XS mL_most 145 [(0, .ref 0)] [] I L Q) : XS mL_most 140 [(0, .ref 0)] [.int s0] I L Q := by
  refine x_bipush (v := (15 : Int32)) dL_most_140 (by decide) ?_
  exact x_icmp_ne 175 dL_most_142 (by decide) (fun h => x_sub [] rfl (K1 h)) (fun h => K2 h)
theorem bL_most_145 {I : Nat → Nat → Int32} {L : Nat → Int64} {Q : Option Value → (Nat → Nat → Int32) → (Nat → Int64) → Prop}   (K : XS mX9_count 0 [(0, .ref 0), (1, .int (1 : Int32))] [] I L (fun r I' L' => XS mL_most 150 [(0, .ref 0)] (r.toList ++ []) I' L' Q)) : XS mL_most 145 [(0, .ref 0)] [] I L Q := by
  refine x_aload_n 0 dL_most_145 rfl rfl ?_
  refine x_iconst (v := (1 : Int32)) dL_most_146 (by decide) ?_
  exact xs_callV mX9_count [.int (1 : Int32)] [] 0 9 1 _ rfl dL_most_147 ml_L_39 qX9_count rfl ⟨Nat.le_of_ble_eq_true rfl, Nat.le_of_ble_eq_true rfl⟩ ⟨rfl, rfl⟩ (Nat.le_of_ble_eq_true rfl) sh_0 (by decide) rfl (Nat.le_of_ble_eq_true rfl) (K)
theorem bL_most_150 {I : Nat → Nat → Int32} {L : Nat → Int64} {Q : Option Value → (Nat → Nat → Int32) → (Nat → Int64) → Prop} {s0 : Int32}  (K1 : (¬ s0 = (13 : Int32)) → XS mL_most 175 [] [] I L Q) (K2 : (s0 = (13 : Int32)) → XS mL_most 155 [(0, .ref 0)] [] I L Q) : XS mL_most 150 [(0, .ref 0)] [.int s0] I L Q := by
  refine x_bipush (v := (13 : Int32)) dL_most_150 (by decide) ?_
  exact x_icmp_ne 175 dL_most_152 (by decide) (fun h => x_sub [] rfl (K1 h)) (fun h => K2 h)
theorem bL_most_155 {I : Nat → Nat → Int32} {L : Nat → Int64} {Q : Option Value → (Nat → Nat → Int32) → (Nat → Int64) → Prop}   (K : XS mX9_link 0 [(0, .ref 0), (1, .int (0 : Int32)), (2, .int (2 : Int32))] [] I L (fun r I' L' => XS mL_most 161 [(0, .ref 0)] (r.toList ++ []) I' L' Q)) : XS mL_most 155 [(0, .ref 0)] [] I L Q := by
  refine x_aload_n 0 dL_most_155 rfl rfl ?_
  refine x_iconst (v := (0 : Int32)) dL_most_156 (by decide) ?_
  refine x_iconst (v := (2 : Int32)) dL_most_157 (by decide) ?_
  exact xs_callV mX9_link [.int (0 : Int32), .int (2 : Int32)] [] 0 9 2 _ rfl dL_most_158 ml_L_52 qX9_link rfl ⟨Nat.le_of_ble_eq_true rfl, Nat.le_of_ble_eq_true rfl⟩ ⟨rfl, rfl⟩ (Nat.le_of_ble_eq_true rfl) sh_0 (by decide) rfl (Nat.le_of_ble_eq_true rfl) (K)
theorem bL_most_161 {I : Nat → Nat → Int32} {L : Nat → Int64} {Q : Option Value → (Nat → Nat → Int32) → (Nat → Int64) → Prop} {s0 : Int32}  (K1 : (¬ s0 = (5 : Int32)) → XS mL_most 175 [] [] I L Q) (K2 : (s0 = (5 : Int32)) → XS mL_most 165 [(0, .ref 0)] [] I L Q) : XS mL_most 161 [(0, .ref 0)] [.int s0] I L Q := by
  refine x_iconst (v := (5 : Int32)) dL_most_161 (by decide) ?_
  exact x_icmp_ne 175 dL_most_162 (by decide) (fun h => x_sub [] rfl (K1 h)) (fun h => K2 h)
theorem bL_most_165 {I : Nat → Nat → Int32} {L : Nat → Int64} {Q : Option Value → (Nat → Nat → Int32) → (Nat → Int64) → Prop}   (K : XS mX9_link 0 [(0, .ref 0), (1, .int (1 : Int32)), (2, .int (2 : Int32))] [] I L (fun r I' L' => XS mL_most 171 [(0, .ref 0)] (r.toList ++ []) I' L' Q)) : XS mL_most 165 [(0, .ref 0)] [] I L Q := by
  refine x_aload_n 0 dL_most_165 rfl rfl ?_
  refine x_iconst (v := (1 : Int32)) dL_most_166 (by decide) ?_
  refine x_iconst (v := (2 : Int32)) dL_most_167 (by decide) ?_
  exact xs_callV mX9_link [.int (1 : Int32), .int (2 : Int32)] [] 0 9 2 _ rfl dL_most_168 ml_L_52 qX9_link rfl ⟨Nat.le_of_ble_eq_true rfl, Nat.le_of_ble_eq_true rfl⟩ ⟨rfl, rfl⟩ (Nat.le_of_ble_eq_true rfl) sh_0 (by decide) rfl (Nat.le_of_ble_eq_true rfl) (K)
theorem bL_most_171 {I : Nat → Nat → Int32} {L : Nat → Int64} {Q : Option Value → (Nat → Nat → Int32) → (Nat → Int64) → Prop} {s0 : Int32}  (K1 : (s0 = (1 : Int32)) → XS mL_most 177 [(0, .ref 0)] [] I L Q) (K2 : (¬ s0 = (1 : Int32)) → XS mL_most 175 [] [] I L Q) : XS mL_most 171 [(0, .ref 0)] [.int s0] I L Q := by
  refine x_iconst (v := (1 : Int32)) dL_most_171 (by decide) ?_
  exact x_icmp_eq 177 dL_most_172 (by decide) (fun h => K1 h) (fun h => x_sub [] rfl (K2 h))
theorem bL_most_175 {I : Nat → Nat → Int32} {L : Nat → Int64} {Q : Option Value → (Nat → Nat → Int32) → (Nat → Int64) → Prop}   (K : Q (some (.int (0 : Int32))) I L) : XS mL_most 175 [] [] I L Q := by
  refine x_iconst (v := (0 : Int32)) dL_most_175 (by decide) ?_
  exact xs_iret dL_most_176 rfl (x_nar _ (Or.inl rfl)) K
theorem bL_most_177 {I : Nat → Nat → Int32} {L : Nat → Int64} {Q : Option Value → (Nat → Nat → Int32) → (Nat → Int64) → Prop}   (K : XS mL_says 0 [(0, .ref 0), (1, .int (108 : Int32)), (2, .int (105 : Int32)), (3, .int (110 : Int32)), (4, .int (107 : Int32))] [] I L (fun r I' L' => XS mL_most 189 [(0, .ref 0)] (r.toList ++ []) I' L' Q)) : XS mL_most 177 [(0, .ref 0)] [] I L Q := by
  refine x_aload_n 0 dL_most_177 rfl rfl ?_
  refine x_bipush (v := (108 : Int32)) dL_most_178 (by decide) ?_
  refine x_bipush (v := (105 : Int32)) dL_most_180 (by decide) ?_
  refine x_bipush (v := (110 : Int32)) dL_most_182 (by decide) ?_
  refine x_bipush (v := (107 : Int32)) dL_most_184 (by decide) ?_
  exact xs_callS mL_says [.ref 0, .int (108 : Int32), .int (105 : Int32), .int (110 : Int32), .int (107 : Int32)] [] 5 _ rfl dL_most_186 ml_L_25 qL_says rfl ⟨Nat.le_of_ble_eq_true rfl, Nat.le_of_ble_eq_true rfl⟩ ⟨rfl, rfl⟩ (Nat.le_of_ble_eq_true rfl) (Nat.le_of_ble_eq_true rfl) (K)
theorem bL_most_189 {I : Nat → Nat → Int32} {L : Nat → Int64} {Q : Option Value → (Nat → Nat → Int32) → (Nat → Int64) → Prop}   (K : XS mL_says 0 [(0, .ref 0), (1, .int (50 : Int32)), (2, .int (51 : Int32)), (3, .int (32 : Int32)), (4, .int (32 : Int32))] [] I L (fun r I' L' => XS mL_most 201 [(0, .ref 0)] (r.toList ++ []) I' L' Q)) : XS mL_most 189 [(0, .ref 0)] [] I L Q := by
  refine x_aload_n 0 dL_most_189 rfl rfl ?_
  refine x_bipush (v := (50 : Int32)) dL_most_190 (by decide) ?_
  refine x_bipush (v := (51 : Int32)) dL_most_192 (by decide) ?_
  refine x_bipush (v := (32 : Int32)) dL_most_194 (by decide) ?_
  refine x_bipush (v := (32 : Int32)) dL_most_196 (by decide) ?_
  exact xs_callS mL_says [.ref 0, .int (50 : Int32), .int (51 : Int32), .int (32 : Int32), .int (32 : Int32)] [] 5 _ rfl dL_most_198 ml_L_25 qL_says rfl ⟨Nat.le_of_ble_eq_true rfl, Nat.le_of_ble_eq_true rfl⟩ ⟨rfl, rfl⟩ (Nat.le_of_ble_eq_true rfl) (Nat.le_of_ble_eq_true rfl) (K)
theorem bL_most_201 {I : Nat → Nat → Int32} {L : Nat → Int64} {Q : Option Value → (Nat → Nat → Int32) → (Nat → Int64) → Prop}   (K : XS mX9_fault 0 [(0, .ref 0)] [] I L (fun r I' L' => XS mL_most 205 [(0, .ref 0)] (r.toList ++ []) I' L' Q)) : XS mL_most 201 [(0, .ref 0)] [] I L Q := by
  refine x_aload_n 0 dL_most_201 rfl rfl ?_
  exact xs_callV mX9_fault [] [] 0 9 0 _ rfl dL_most_202 ml_L_33 qX9_fault rfl ⟨Nat.le_of_ble_eq_true rfl, Nat.le_of_ble_eq_true rfl⟩ ⟨rfl, rfl⟩ (Nat.le_of_ble_eq_true rfl) sh_0 (by decide) rfl (Nat.le_of_ble_eq_true rfl) (K)
theorem bL_most_205 {I : Nat → Nat → Int32} {L : Nat → Int64} {Q : Option Value → (Nat → Nat → Int32) → (Nat → Int64) → Prop} {s0 : Int32}  (K1 : (¬ s0 = (4 : Int32)) → XS mL_most 218 [] [] I L Q) (K2 : (s0 = (4 : Int32)) → XS mL_most 209 [(0, .ref 0)] [] I L Q) : XS mL_most 205 [(0, .ref 0)] [.int s0] I L Q := by
  refine x_iconst (v := (4 : Int32)) dL_most_205 (by decide) ?_
  exact x_icmp_ne 218 dL_most_206 (by decide) (fun h => x_sub [] rfl (K1 h)) (fun h => K2 h)
theorem bL_most_209 {I : Nat → Nat → Int32} {L : Nat → Int64} {Q : Option Value → (Nat → Nat → Int32) → (Nat → Int64) → Prop}   (K : XS mX9_erase 0 [(0, .ref 0)] [] I L (fun r I' L' => XS mL_most 213 [(0, .ref 0)] (r.toList ++ []) I' L' Q)) : XS mL_most 209 [(0, .ref 0)] [] I L Q := by
  refine x_aload_n 0 dL_most_209 rfl rfl ?_
  exact xs_callV mX9_erase [] [] 0 9 0 _ rfl dL_most_210 ml_L_19 qX9_erase rfl ⟨Nat.le_of_ble_eq_true rfl, Nat.le_of_ble_eq_true rfl⟩ ⟨rfl, rfl⟩ (Nat.le_of_ble_eq_true rfl) sh_0 (by decide) rfl (Nat.le_of_ble_eq_true rfl) (K)
theorem bL_most_213 {I : Nat → Nat → Int32} {L : Nat → Int64} {Q : Option Value → (Nat → Nat → Int32) → (Nat → Int64) → Prop} {s0 : Int32}  (K1 : (s0 = (8 : Int32)) → XS mL_most 220 [(0, .ref 0)] [] I L Q) (K2 : (¬ s0 = (8 : Int32)) → XS mL_most 218 [] [] I L Q) : XS mL_most 213 [(0, .ref 0)] [.int s0] I L Q := by
  refine x_bipush (v := (8 : Int32)) dL_most_213 (by decide) ?_
  exact x_icmp_eq 220 dL_most_215 (by decide) (fun h => K1 h) (fun h => x_sub [] rfl (K2 h))
theorem bL_most_218 {I : Nat → Nat → Int32} {L : Nat → Int64} {Q : Option Value → (Nat → Nat → Int32) → (Nat → Int64) → Prop}   (K : Q (some (.int (0 : Int32))) I L) : XS mL_most 218 [] [] I L Q := by
  refine x_iconst (v := (0 : Int32)) dL_most_218 (by decide) ?_
  exact xs_iret dL_most_219 rfl (x_nar _ (Or.inl rfl)) K
theorem bL_most_220 {I : Nat → Nat → Int32} {L : Nat → Int64} {Q : Option Value → (Nat → Nat → Int32) → (Nat → Int64) → Prop}   (K : XS mL_says 0 [(0, .ref 0), (1, .int (108 : Int32)), (2, .int (105 : Int32)), (3, .int (110 : Int32)), (4, .int (107 : Int32))] [] I L (fun r I' L' => XS mL_most 232 [(0, .ref 0)] (r.toList ++ []) I' L' Q)) : XS mL_most 220 [(0, .ref 0)] [] I L Q := by
  refine x_aload_n 0 dL_most_220 rfl rfl ?_
  refine x_bipush (v := (108 : Int32)) dL_most_221 (by decide) ?_
  refine x_bipush (v := (105 : Int32)) dL_most_223 (by decide) ?_
  refine x_bipush (v := (110 : Int32)) dL_most_225 (by decide) ?_
  refine x_bipush (v := (107 : Int32)) dL_most_227 (by decide) ?_
  exact xs_callS mL_says [.ref 0, .int (108 : Int32), .int (105 : Int32), .int (110 : Int32), .int (107 : Int32)] [] 5 _ rfl dL_most_229 ml_L_25 qL_says rfl ⟨Nat.le_of_ble_eq_true rfl, Nat.le_of_ble_eq_true rfl⟩ ⟨rfl, rfl⟩ (Nat.le_of_ble_eq_true rfl) (Nat.le_of_ble_eq_true rfl) (K)
theorem bL_most_232 {I : Nat → Nat → Int32} {L : Nat → Int64} {Q : Option Value → (Nat → Nat → Int32) → (Nat → Int64) → Prop}   (K : XS mL_says 0 [(0, .ref 0), (1, .int (50 : Int32)), (2, .int (32 : Int32)), (3, .int (51 : Int32)), (4, .int (32 : Int32))] [] I L (fun r I' L' => XS mL_most 244 [(0, .ref 0)] (r.toList ++ []) I' L' Q)) : XS mL_most 232 [(0, .ref 0)] [] I L Q := by
  refine x_aload_n 0 dL_most_232 rfl rfl ?_
  refine x_bipush (v := (50 : Int32)) dL_most_233 (by decide) ?_
  refine x_bipush (v := (32 : Int32)) dL_most_235 (by decide) ?_
  refine x_bipush (v := (51 : Int32)) dL_most_237 (by decide) ?_
  refine x_bipush (v := (32 : Int32)) dL_most_239 (by decide) ?_
  exact xs_callS mL_says [.ref 0, .int (50 : Int32), .int (32 : Int32), .int (51 : Int32), .int (32 : Int32)] [] 5 _ rfl dL_most_241 ml_L_25 qL_says rfl ⟨Nat.le_of_ble_eq_true rfl, Nat.le_of_ble_eq_true rfl⟩ ⟨rfl, rfl⟩ (Nat.le_of_ble_eq_true rfl) (Nat.le_of_ble_eq_true rfl) (K)
theorem bL_most_244 {I : Nat → Nat → Int32} {L : Nat → Int64} {Q : Option Value → (Nat → Nat → Int32) → (Nat → Int64) → Prop}   (K : XS mL_says 0 [(0, .ref 0), (1, .int (49 : Int32)), (2, .int (32 : Int32)), (3, .int (49 : Int32)), (4, .int (59 : Int32))] [] I L (fun r I' L' => XS mL_most 256 [(0, .ref 0)] (r.toList ++ []) I' L' Q)) : XS mL_most 244 [(0, .ref 0)] [] I L Q := by
  refine x_aload_n 0 dL_most_244 rfl rfl ?_
  refine x_bipush (v := (49 : Int32)) dL_most_245 (by decide) ?_
  refine x_bipush (v := (32 : Int32)) dL_most_247 (by decide) ?_
  refine x_bipush (v := (49 : Int32)) dL_most_249 (by decide) ?_
  refine x_bipush (v := (59 : Int32)) dL_most_251 (by decide) ?_
  exact xs_callS mL_says [.ref 0, .int (49 : Int32), .int (32 : Int32), .int (49 : Int32), .int (59 : Int32)] [] 5 _ rfl dL_most_253 ml_L_25 qL_says rfl ⟨Nat.le_of_ble_eq_true rfl, Nat.le_of_ble_eq_true rfl⟩ ⟨rfl, rfl⟩ (Nat.le_of_ble_eq_true rfl) (Nat.le_of_ble_eq_true rfl) (K)
theorem bL_most_256 {I : Nat → Nat → Int32} {L : Nat → Int64} {Q : Option Value → (Nat → Nat → Int32) → (Nat → Int64) → Prop}   (K : XS mL_says 0 [(0, .ref 0), (1, .int (108 : Int32)), (2, .int (105 : Int32)), (3, .int (110 : Int32)), (4, .int (107 : Int32))] [] I L (fun r I' L' => XS mL_most 268 [(0, .ref 0)] (r.toList ++ []) I' L' Q)) : XS mL_most 256 [(0, .ref 0)] [] I L Q := by
  refine x_aload_n 0 dL_most_256 rfl rfl ?_
  refine x_bipush (v := (108 : Int32)) dL_most_257 (by decide) ?_
  refine x_bipush (v := (105 : Int32)) dL_most_259 (by decide) ?_
  refine x_bipush (v := (110 : Int32)) dL_most_261 (by decide) ?_
  refine x_bipush (v := (107 : Int32)) dL_most_263 (by decide) ?_
  exact xs_callS mL_says [.ref 0, .int (108 : Int32), .int (105 : Int32), .int (110 : Int32), .int (107 : Int32)] [] 5 _ rfl dL_most_265 ml_L_25 qL_says rfl ⟨Nat.le_of_ble_eq_true rfl, Nat.le_of_ble_eq_true rfl⟩ ⟨rfl, rfl⟩ (Nat.le_of_ble_eq_true rfl) (Nat.le_of_ble_eq_true rfl) (K)
theorem bL_most_268 {I : Nat → Nat → Int32} {L : Nat → Int64} {Q : Option Value → (Nat → Nat → Int32) → (Nat → Int64) → Prop}   (K : XS mL_says 0 [(0, .ref 0), (1, .int (50 : Int32)), (2, .int (32 : Int32)), (3, .int (52 : Int32)), (4, .int (32 : Int32))] [] I L (fun r I' L' => XS mL_most 280 [(0, .ref 0)] (r.toList ++ []) I' L' Q)) : XS mL_most 268 [(0, .ref 0)] [] I L Q := by
  refine x_aload_n 0 dL_most_268 rfl rfl ?_
  refine x_bipush (v := (50 : Int32)) dL_most_269 (by decide) ?_
  refine x_bipush (v := (32 : Int32)) dL_most_271 (by decide) ?_
  refine x_bipush (v := (52 : Int32)) dL_most_273 (by decide) ?_
  refine x_bipush (v := (32 : Int32)) dL_most_275 (by decide) ?_
  exact xs_callS mL_says [.ref 0, .int (50 : Int32), .int (32 : Int32), .int (52 : Int32), .int (32 : Int32)] [] 5 _ rfl dL_most_277 ml_L_25 qL_says rfl ⟨Nat.le_of_ble_eq_true rfl, Nat.le_of_ble_eq_true rfl⟩ ⟨rfl, rfl⟩ (Nat.le_of_ble_eq_true rfl) (Nat.le_of_ble_eq_true rfl) (K)
theorem bL_most_280 {I : Nat → Nat → Int32} {L : Nat → Int64} {Q : Option Value → (Nat → Nat → Int32) → (Nat → Int64) → Prop}   (K : XS mX9_write 0 [(0, .ref 0), (1, .int (49 : Int32))] [] I L (fun r I' L' => XS mL_most 286 [(0, .ref 0)] (r.toList ++ []) I' L' Q)) : XS mL_most 280 [(0, .ref 0)] [] I L Q := by
  refine x_aload_n 0 dL_most_280 rfl rfl ?_
  refine x_bipush (v := (49 : Int32)) dL_most_281 (by decide) ?_
  exact xs_callV mX9_write [.int (49 : Int32)] [] 0 9 1 _ rfl dL_most_283 ml_L_43 qX9_write rfl ⟨Nat.le_of_ble_eq_true rfl, Nat.le_of_ble_eq_true rfl⟩ ⟨rfl, rfl⟩ (Nat.le_of_ble_eq_true rfl) sh_0 (by decide) rfl (Nat.le_of_ble_eq_true rfl) (K)
theorem bL_most_286 {I : Nat → Nat → Int32} {L : Nat → Int64} {Q : Option Value → (Nat → Nat → Int32) → (Nat → Int64) → Prop} {s0 : Int32}  (K : XS mX9_write 0 [(0, .ref 0), (1, .int (49 : Int32))] [] I L (fun r I' L' => XS mL_most 293 [(0, .ref 0)] (r.toList ++ []) I' L' Q)) : XS mL_most 286 [(0, .ref 0)] [.int s0] I L Q := by
  refine x_pop dL_most_286 rfl ?_
  refine x_aload_n 0 dL_most_287 rfl rfl ?_
  refine x_bipush (v := (49 : Int32)) dL_most_288 (by decide) ?_
  exact xs_callV mX9_write [.int (49 : Int32)] [] 0 9 1 _ rfl dL_most_290 ml_L_43 qX9_write rfl ⟨Nat.le_of_ble_eq_true rfl, Nat.le_of_ble_eq_true rfl⟩ ⟨rfl, rfl⟩ (Nat.le_of_ble_eq_true rfl) sh_0 (by decide) rfl (Nat.le_of_ble_eq_true rfl) (K)
theorem bL_most_293 {I : Nat → Nat → Int32} {L : Nat → Int64} {Q : Option Value → (Nat → Nat → Int32) → (Nat → Int64) → Prop} {s0 : Int32}  (K : XS mX9_fault 0 [(0, .ref 0)] [] I L (fun r I' L' => XS mL_most 298 [(0, .ref 0)] (r.toList ++ []) I' L' Q)) : XS mL_most 293 [(0, .ref 0)] [.int s0] I L Q := by
  refine x_pop dL_most_293 rfl ?_
  refine x_aload_n 0 dL_most_294 rfl rfl ?_
  exact xs_callV mX9_fault [] [] 0 9 0 _ rfl dL_most_295 ml_L_33 qX9_fault rfl ⟨Nat.le_of_ble_eq_true rfl, Nat.le_of_ble_eq_true rfl⟩ ⟨rfl, rfl⟩ (Nat.le_of_ble_eq_true rfl) sh_0 (by decide) rfl (Nat.le_of_ble_eq_true rfl) (K)
theorem bL_most_298 {I : Nat → Nat → Int32} {L : Nat → Int64} {Q : Option Value → (Nat → Nat → Int32) → (Nat → Int64) → Prop} {s0 : Int32}  (K1 : (¬ s0 = (18 : Int32)) → XS mL_most 316 [] [] I L Q) (K2 : (s0 = (18 : Int32)) → XS mL_most 303 [(0, .ref 0)] [] I L Q) : XS mL_most 298 [(0, .ref 0)] [.int s0] I L Q := by
  refine x_bipush (v := (18 : Int32)) dL_most_298 (by decide) ?_
  exact x_icmp_ne 316 dL_most_300 (by decide) (fun h => x_sub [] rfl (K1 h)) (fun h => K2 h)
theorem bL_most_303 {I : Nat → Nat → Int32} {L : Nat → Int64} {Q : Option Value → (Nat → Nat → Int32) → (Nat → Int64) → Prop}   (K : XS mX9_erase 0 [(0, .ref 0)] [] I L (fun r I' L' => XS mL_most 307 [] (r.toList ++ []) I' L' Q)) : XS mL_most 303 [(0, .ref 0)] [] I L Q := by
  refine x_aload_n 0 dL_most_303 rfl rfl ?_
  refine x_sub [] rfl ?_
  exact xs_callV mX9_erase [] [] 0 9 0 _ rfl dL_most_304 ml_L_19 qX9_erase rfl ⟨Nat.le_of_ble_eq_true rfl, Nat.le_of_ble_eq_true rfl⟩ ⟨rfl, rfl⟩ (Nat.le_of_ble_eq_true rfl) sh_0 (by decide) rfl (Nat.le_of_ble_eq_true rfl) (K)
theorem bL_most_307 {I : Nat → Nat → Int32} {L : Nat → Int64} {Q : Option Value → (Nat → Nat → Int32) → (Nat → Int64) → Prop} {s0 : Int32}  (K1 : (¬ s0 = (22 : Int32)) → XS mL_most 316 [] [] I L Q) (K2 : (s0 = (22 : Int32)) → XS mL_most 312 [] [] I L Q) : XS mL_most 307 [] [.int s0] I L Q := by
  refine x_bipush (v := (22 : Int32)) dL_most_307 (by decide) ?_
  exact x_icmp_ne 316 dL_most_309 (by decide) (fun h => K1 h) (fun h => K2 h)
theorem bL_most_312 {I : Nat → Nat → Int32} {L : Nat → Int64} {Q : Option Value → (Nat → Nat → Int32) → (Nat → Int64) → Prop}   (K : XS mL_most 317 [] [.int (1 : Int32)] I L Q) : XS mL_most 312 [] [] I L Q := by
  refine x_iconst (v := (1 : Int32)) dL_most_312 (by decide) ?_
  exact x_goto 317 dL_most_313 (by decide) (K)
theorem bL_most_316 {I : Nat → Nat → Int32} {L : Nat → Int64} {Q : Option Value → (Nat → Nat → Int32) → (Nat → Int64) → Prop}   (K : XS mL_most 317 [] [.int (0 : Int32)] I L Q) : XS mL_most 316 [] [] I L Q := by
  refine x_iconst (v := (0 : Int32)) dL_most_316 (by decide) ?_
  exact K
theorem bL_most_317 {I : Nat → Nat → Int32} {L : Nat → Int64} {Q : Option Value → (Nat → Nat → Int32) → (Nat → Int64) → Prop} {s0 : Int32} (hz1 : s0 = 0 ∨ s0 = 1) (K : Q (some (.int s0)) I L) : XS mL_most 317 [] [.int s0] I L Q := by
  exact xs_iret dL_most_317 rfl (x_nar _ hz1) K
theorem bL_refused_0 {I : Nat → Nat → Int32} {L : Nat → Int64} {Q : Option Value → (Nat → Nat → Int32) → (Nat → Int64) → Prop}   (K : XS mL_whole 0 [(0, .ref 0)] [] I L (fun r I' L' => XS mL_refused 4 [(0, .ref 0)] (r.toList ++ []) I' L' Q)) : XS mL_refused 0 [(0, .ref 0)] [] I L Q := by
  refine x_aload_n 0 dL_refused_0 rfl rfl ?_
  exact xs_callS mL_whole [.ref 0] [] 1 _ rfl dL_refused_1 ml_L_68 qL_whole rfl ⟨Nat.le_of_ble_eq_true rfl, Nat.le_of_ble_eq_true rfl⟩ ⟨rfl, rfl⟩ (Nat.le_of_ble_eq_true rfl) (Nat.le_of_ble_eq_true rfl) (K)
theorem bL_refused_4 {I : Nat → Nat → Int32} {L : Nat → Int64} {Q : Option Value → (Nat → Nat → Int32) → (Nat → Int64) → Prop} {s0 : Int64}  (K : XS mX9_count 0 [(0, .ref 0), (1, .int (11 : Int32))] [] I L (fun r I' L' => XS mL_refused 11 [(0, .ref 0), (1, .long s0)] (r.toList ++ []) I' L' Q)) : XS mL_refused 4 [(0, .ref 0)] [.long s0] I L Q := by
  refine x_lstore_n [(0, .ref 0), (1, .long s0)] dL_refused_4 rfl (Nat.le_of_ble_eq_true rfl) rfl ?_
  refine x_aload_n 0 dL_refused_5 rfl rfl ?_
  refine x_bipush (v := (11 : Int32)) dL_refused_6 (by decide) ?_
  exact xs_callV mX9_count [.int (11 : Int32)] [] 0 9 1 _ rfl dL_refused_8 ml_L_39 qX9_count rfl ⟨Nat.le_of_ble_eq_true rfl, Nat.le_of_ble_eq_true rfl⟩ ⟨rfl, rfl⟩ (Nat.le_of_ble_eq_true rfl) sh_0 (by decide) rfl (Nat.le_of_ble_eq_true rfl) (K)
theorem bL_refused_11 {I : Nat → Nat → Int32} {L : Nat → Int64} {Q : Option Value → (Nat → Nat → Int32) → (Nat → Int64) → Prop} {v1 : Int64} {s0 : Int32}  (K : XS mX9_count 0 [(0, .ref 0), (1, .int (0 : Int32))] [] I L (fun r I' L' => XS mL_refused 17 [(0, .ref 0), (1, .long v1), (3, .int s0)] (r.toList ++ []) I' L' Q)) : XS mL_refused 11 [(0, .ref 0), (1, .long v1)] [.int s0] I L Q := by
  refine x_istore_n [(0, .ref 0), (1, .long v1), (3, .int s0)] dL_refused_11 rfl (Nat.le_of_ble_eq_true rfl) rfl ?_
  refine x_aload_n 0 dL_refused_12 rfl rfl ?_
  refine x_iconst (v := (0 : Int32)) dL_refused_13 (by decide) ?_
  exact xs_callV mX9_count [.int (0 : Int32)] [] 0 9 1 _ rfl dL_refused_14 ml_L_39 qX9_count rfl ⟨Nat.le_of_ble_eq_true rfl, Nat.le_of_ble_eq_true rfl⟩ ⟨rfl, rfl⟩ (Nat.le_of_ble_eq_true rfl) sh_0 (by decide) rfl (Nat.le_of_ble_eq_true rfl) (K)
theorem bL_refused_17 {I : Nat → Nat → Int32} {L : Nat → Int64} {Q : Option Value → (Nat → Nat → Int32) → (Nat → Int64) → Prop} {v1 : Int64} {v3 : Int32} {s0 : Int32}  (K : XS mX9_count 0 [(0, .ref 0), (1, .int (1 : Int32))] [] I L (fun r I' L' => XS mL_refused 24 [(0, .ref 0), (1, .long v1), (3, .int v3), (4, .int s0)] (r.toList ++ []) I' L' Q)) : XS mL_refused 17 [(0, .ref 0), (1, .long v1), (3, .int v3)] [.int s0] I L Q := by
  refine x_istore [(0, .ref 0), (1, .long v1), (3, .int v3), (4, .int s0)] dL_refused_17 (Nat.le_of_ble_eq_true rfl) rfl ?_
  refine x_aload_n 0 dL_refused_19 rfl rfl ?_
  refine x_iconst (v := (1 : Int32)) dL_refused_20 (by decide) ?_
  exact xs_callV mX9_count [.int (1 : Int32)] [] 0 9 1 _ rfl dL_refused_21 ml_L_39 qX9_count rfl ⟨Nat.le_of_ble_eq_true rfl, Nat.le_of_ble_eq_true rfl⟩ ⟨rfl, rfl⟩ (Nat.le_of_ble_eq_true rfl) sh_0 (by decide) rfl (Nat.le_of_ble_eq_true rfl) (K)
theorem bL_refused_24 {I : Nat → Nat → Int32} {L : Nat → Int64} {Q : Option Value → (Nat → Nat → Int32) → (Nat → Int64) → Prop} {v1 : Int64} {v3 : Int32} {v4 : Int32} {s0 : Int32}  (K : XS mX9_count 0 [(0, .ref 0), (1, .int (14 : Int32))] [] I L (fun r I' L' => XS mL_refused 32 [(0, .ref 0), (1, .long v1), (3, .int v3), (4, .int v4), (5, .int s0)] (r.toList ++ []) I' L' Q)) : XS mL_refused 24 [(0, .ref 0), (1, .long v1), (3, .int v3), (4, .int v4)] [.int s0] I L Q := by
  refine x_istore [(0, .ref 0), (1, .long v1), (3, .int v3), (4, .int v4), (5, .int s0)] dL_refused_24 (Nat.le_of_ble_eq_true rfl) rfl ?_
  refine x_aload_n 0 dL_refused_26 rfl rfl ?_
  refine x_bipush (v := (14 : Int32)) dL_refused_27 (by decide) ?_
  exact xs_callV mX9_count [.int (14 : Int32)] [] 0 9 1 _ rfl dL_refused_29 ml_L_39 qX9_count rfl ⟨Nat.le_of_ble_eq_true rfl, Nat.le_of_ble_eq_true rfl⟩ ⟨rfl, rfl⟩ (Nat.le_of_ble_eq_true rfl) sh_0 (by decide) rfl (Nat.le_of_ble_eq_true rfl) (K)
theorem bL_refused_32 {I : Nat → Nat → Int32} {L : Nat → Int64} {Q : Option Value → (Nat → Nat → Int32) → (Nat → Int64) → Prop} {v1 : Int64} {v3 : Int32} {v4 : Int32} {v5 : Int32} {s0 : Int32}  (K1 : (¬ s0 = (-3 : Int32)) → XS mL_refused 300 [(0, .ref 0), (1, .long v1), (3, .int v3), (5, .int v5)] [] I L Q) (K2 : (s0 = (-3 : Int32)) → XS mL_refused 37 [(0, .ref 0), (1, .long v1), (3, .int v3), (4, .int v4), (5, .int v5)] [] I L Q) : XS mL_refused 32 [(0, .ref 0), (1, .long v1), (3, .int v3), (4, .int v4), (5, .int v5)] [.int s0] I L Q := by
  refine x_bipush (v := (-3 : Int32)) dL_refused_32 (by decide) ?_
  exact x_icmp_ne 300 dL_refused_34 (by decide) (fun h => x_sub [0, 1, 2, 4] rfl (K1 h)) (fun h => K2 h)
theorem bL_refused_37 {I : Nat → Nat → Int32} {L : Nat → Int64} {Q : Option Value → (Nat → Nat → Int32) → (Nat → Int64) → Prop} {v1 : Int64} {v3 : Int32} {v4 : Int32} {v5 : Int32}  (K : XS mX9_link 0 [(0, .ref 0), (1, .int v5), (2, .int (9 : Int32))] [] I L (fun r I' L' => XS mL_refused 45 [(0, .ref 0), (1, .long v1), (3, .int v3), (4, .int v4), (5, .int v5)] (r.toList ++ []) I' L' Q)) : XS mL_refused 37 [(0, .ref 0), (1, .long v1), (3, .int v3), (4, .int v4), (5, .int v5)] [] I L Q := by
  refine x_aload_n 0 dL_refused_37 rfl rfl ?_
  refine x_iload 4 dL_refused_38 rfl ?_
  refine x_bipush (v := (9 : Int32)) dL_refused_40 (by decide) ?_
  exact xs_callV mX9_link [.int v5, .int (9 : Int32)] [] 0 9 2 _ rfl dL_refused_42 ml_L_52 qX9_link rfl ⟨Nat.le_of_ble_eq_true rfl, Nat.le_of_ble_eq_true rfl⟩ ⟨rfl, rfl⟩ (Nat.le_of_ble_eq_true rfl) sh_0 (by decide) rfl (Nat.le_of_ble_eq_true rfl) (K)
theorem bL_refused_45 {I : Nat → Nat → Int32} {L : Nat → Int64} {Q : Option Value → (Nat → Nat → Int32) → (Nat → Int64) → Prop} {v1 : Int64} {v3 : Int32} {v4 : Int32} {v5 : Int32} {s0 : Int32}  (K1 : (¬ s0 = (-2 : Int32)) → XS mL_refused 300 [(0, .ref 0), (1, .long v1), (3, .int v3), (5, .int v5)] [] I L Q) (K2 : (s0 = (-2 : Int32)) → XS mL_refused 50 [(0, .ref 0), (1, .long v1), (3, .int v3), (4, .int v4), (5, .int v5)] [] I L Q) : XS mL_refused 45 [(0, .ref 0), (1, .long v1), (3, .int v3), (4, .int v4), (5, .int v5)] [.int s0] I L Q := by
  refine x_bipush (v := (-2 : Int32)) dL_refused_45 (by decide) ?_
  exact x_icmp_ne 300 dL_refused_47 (by decide) (fun h => x_sub [0, 1, 2, 4] rfl (K1 h)) (fun h => K2 h)
theorem bL_refused_50 {I : Nat → Nat → Int32} {L : Nat → Int64} {Q : Option Value → (Nat → Nat → Int32) → (Nat → Int64) → Prop} {v1 : Int64} {v3 : Int32} {v4 : Int32} {v5 : Int32}  (K : XS mX9_fail 0 [(0, .ref 0), (1, .int v5)] [] I L (fun r I' L' => XS mL_refused 56 [(0, .ref 0), (1, .long v1), (3, .int v3), (4, .int v4), (5, .int v5)] (r.toList ++ []) I' L' Q)) : XS mL_refused 50 [(0, .ref 0), (1, .long v1), (3, .int v3), (4, .int v4), (5, .int v5)] [] I L Q := by
  refine x_aload_n 0 dL_refused_50 rfl rfl ?_
  refine x_iload 4 dL_refused_51 rfl ?_
  exact xs_callV mX9_fail [.int v5] [] 0 9 1 _ rfl dL_refused_53 ml_L_72 qX9_fail rfl ⟨Nat.le_of_ble_eq_true rfl, Nat.le_of_ble_eq_true rfl⟩ ⟨rfl, rfl⟩ (Nat.le_of_ble_eq_true rfl) sh_0 (by decide) rfl (Nat.le_of_ble_eq_true rfl) (K)
theorem bL_refused_56 {I : Nat → Nat → Int32} {L : Nat → Int64} {Q : Option Value → (Nat → Nat → Int32) → (Nat → Int64) → Prop} {v1 : Int64} {v3 : Int32} {v4 : Int32} {v5 : Int32} {s0 : Int32}  (K1 : (¬ s0 = (-2 : Int32)) → XS mL_refused 300 [(0, .ref 0), (1, .long v1), (3, .int v3), (5, .int v5)] [] I L Q) (K2 : (s0 = (-2 : Int32)) → XS mL_refused 61 [(0, .ref 0), (1, .long v1), (3, .int v3), (4, .int v4), (5, .int v5)] [] I L Q) : XS mL_refused 56 [(0, .ref 0), (1, .long v1), (3, .int v3), (4, .int v4), (5, .int v5)] [.int s0] I L Q := by
  refine x_bipush (v := (-2 : Int32)) dL_refused_56 (by decide) ?_
  exact x_icmp_ne 300 dL_refused_58 (by decide) (fun h => x_sub [0, 1, 2, 4] rfl (K1 h)) (fun h => K2 h)
theorem bL_refused_61 {I : Nat → Nat → Int32} {L : Nat → Int64} {Q : Option Value → (Nat → Nat → Int32) → (Nat → Int64) → Prop} {v1 : Int64} {v3 : Int32} {v4 : Int32} {v5 : Int32}  (K : XS mX9_heal 0 [(0, .ref 0), (1, .int (-1 : Int32))] [] I L (fun r I' L' => XS mL_refused 66 [(0, .ref 0), (1, .long v1), (3, .int v3), (4, .int v4), (5, .int v5)] (r.toList ++ []) I' L' Q)) : XS mL_refused 61 [(0, .ref 0), (1, .long v1), (3, .int v3), (4, .int v4), (5, .int v5)] [] I L Q := by
  refine x_aload_n 0 dL_refused_61 rfl rfl ?_
  refine x_iconst (v := (-1 : Int32)) dL_refused_62 (by decide) ?_
  exact xs_callV mX9_heal [.int (-1 : Int32)] [] 0 9 1 _ rfl dL_refused_63 ml_L_75 qX9_heal rfl ⟨Nat.le_of_ble_eq_true rfl, Nat.le_of_ble_eq_true rfl⟩ ⟨rfl, rfl⟩ (Nat.le_of_ble_eq_true rfl) sh_0 (by decide) rfl (Nat.le_of_ble_eq_true rfl) (K)
theorem bL_refused_66 {I : Nat → Nat → Int32} {L : Nat → Int64} {Q : Option Value → (Nat → Nat → Int32) → (Nat → Int64) → Prop} {v1 : Int64} {v3 : Int32} {v4 : Int32} {v5 : Int32} {s0 : Int32}  (K1 : (¬ s0 = (-2 : Int32)) → XS mL_refused 300 [(0, .ref 0), (1, .long v1), (3, .int v3), (5, .int v5)] [] I L Q) (K2 : (s0 = (-2 : Int32)) → XS mL_refused 71 [(0, .ref 0), (1, .long v1), (3, .int v3), (4, .int v4), (5, .int v5)] [] I L Q) : XS mL_refused 66 [(0, .ref 0), (1, .long v1), (3, .int v3), (4, .int v4), (5, .int v5)] [.int s0] I L Q := by
  refine x_bipush (v := (-2 : Int32)) dL_refused_66 (by decide) ?_
  exact x_icmp_ne 300 dL_refused_68 (by decide) (fun h => x_sub [0, 1, 2, 4] rfl (K1 h)) (fun h => K2 h)
theorem bL_refused_71 {I : Nat → Nat → Int32} {L : Nat → Int64} {Q : Option Value → (Nat → Nat → Int32) → (Nat → Int64) → Prop} {v1 : Int64} {v3 : Int32} {v4 : Int32} {v5 : Int32}  (K : XS mX9_tune 0 [(0, .ref 0), (1, .int v5), (2, .int (0 : Int32)), (3, .int (0 : Int32))] [] I L (fun r I' L' => XS mL_refused 79 [(0, .ref 0), (1, .long v1), (3, .int v3), (4, .int v4), (5, .int v5)] (r.toList ++ []) I' L' Q)) : XS mL_refused 71 [(0, .ref 0), (1, .long v1), (3, .int v3), (4, .int v4), (5, .int v5)] [] I L Q := by
  refine x_aload_n 0 dL_refused_71 rfl rfl ?_
  refine x_iload 4 dL_refused_72 rfl ?_
  refine x_iconst (v := (0 : Int32)) dL_refused_74 (by decide) ?_
  refine x_iconst (v := (0 : Int32)) dL_refused_75 (by decide) ?_
  exact xs_callV mX9_tune [.int v5, .int (0 : Int32), .int (0 : Int32)] [] 0 9 3 _ rfl dL_refused_76 ml_L_78 qX9_tune rfl ⟨Nat.le_of_ble_eq_true rfl, Nat.le_of_ble_eq_true rfl⟩ ⟨rfl, rfl⟩ (Nat.le_of_ble_eq_true rfl) sh_0 (by decide) rfl (Nat.le_of_ble_eq_true rfl) (K)
theorem bL_refused_79 {I : Nat → Nat → Int32} {L : Nat → Int64} {Q : Option Value → (Nat → Nat → Int32) → (Nat → Int64) → Prop} {v1 : Int64} {v3 : Int32} {v4 : Int32} {v5 : Int32} {s0 : Int32}  (K1 : (¬ s0 = (-2 : Int32)) → XS mL_refused 300 [(0, .ref 0), (1, .long v1), (3, .int v3), (5, .int v5)] [] I L Q) (K2 : (s0 = (-2 : Int32)) → XS mL_refused 84 [(0, .ref 0), (1, .long v1), (3, .int v3), (4, .int v4), (5, .int v5)] [] I L Q) : XS mL_refused 79 [(0, .ref 0), (1, .long v1), (3, .int v3), (4, .int v4), (5, .int v5)] [.int s0] I L Q := by
  refine x_bipush (v := (-2 : Int32)) dL_refused_79 (by decide) ?_
  exact x_icmp_ne 300 dL_refused_81 (by decide) (fun h => x_sub [0, 1, 2, 4] rfl (K1 h)) (fun h => K2 h)
theorem bL_refused_84 {I : Nat → Nat → Int32} {L : Nat → Int64} {Q : Option Value → (Nat → Nat → Int32) → (Nat → Int64) → Prop} {v1 : Int64} {v3 : Int32} {v4 : Int32} {v5 : Int32}  (K : XS mX9_learn 0 [(0, .ref 0), (1, .int v4)] [] I L (fun r I' L' => XS mL_refused 90 [(0, .ref 0), (1, .long v1), (3, .int v3), (4, .int v4), (5, .int v5)] (r.toList ++ []) I' L' Q)) : XS mL_refused 84 [(0, .ref 0), (1, .long v1), (3, .int v3), (4, .int v4), (5, .int v5)] [] I L Q := by
  refine x_aload_n 0 dL_refused_84 rfl rfl ?_
  refine x_iload 3 dL_refused_85 rfl ?_
  exact xs_callV mX9_learn [.int v4] [] 0 9 1 _ rfl dL_refused_87 ml_L_82 qX9_learn rfl ⟨Nat.le_of_ble_eq_true rfl, Nat.le_of_ble_eq_true rfl⟩ ⟨rfl, rfl⟩ (Nat.le_of_ble_eq_true rfl) sh_0 (by decide) rfl (Nat.le_of_ble_eq_true rfl) (K)
theorem bL_refused_90 {I : Nat → Nat → Int32} {L : Nat → Int64} {Q : Option Value → (Nat → Nat → Int32) → (Nat → Int64) → Prop} {v1 : Int64} {v3 : Int32} {v4 : Int32} {v5 : Int32} {s0 : Int32}  (K1 : (¬ s0 = (-2 : Int32)) → XS mL_refused 300 [(0, .ref 0), (1, .long v1), (3, .int v3), (5, .int v5)] [] I L Q) (K2 : (s0 = (-2 : Int32)) → XS mL_refused 95 [(0, .ref 0), (1, .long v1), (3, .int v3), (4, .int v4), (5, .int v5)] [] I L Q) : XS mL_refused 90 [(0, .ref 0), (1, .long v1), (3, .int v3), (4, .int v4), (5, .int v5)] [.int s0] I L Q := by
  refine x_bipush (v := (-2 : Int32)) dL_refused_90 (by decide) ?_
  exact x_icmp_ne 300 dL_refused_92 (by decide) (fun h => x_sub [0, 1, 2, 4] rfl (K1 h)) (fun h => K2 h)
theorem bL_refused_95 {I : Nat → Nat → Int32} {L : Nat → Int64} {Q : Option Value → (Nat → Nat → Int32) → (Nat → Int64) → Prop} {v1 : Int64} {v3 : Int32} {v4 : Int32} {v5 : Int32}  (K : XS mX9_seen 0 [(0, .ref 0), (1, .int v4)] [] I L (fun r I' L' => XS mL_refused 101 [(0, .ref 0), (1, .long v1), (3, .int v3), (4, .int v4), (5, .int v5)] (r.toList ++ []) I' L' Q)) : XS mL_refused 95 [(0, .ref 0), (1, .long v1), (3, .int v3), (4, .int v4), (5, .int v5)] [] I L Q := by
  refine x_aload_n 0 dL_refused_95 rfl rfl ?_
  refine x_iload 3 dL_refused_96 rfl ?_
  exact xs_callV mX9_seen [.int v4] [] 0 9 1 _ rfl dL_refused_98 ml_L_55 qX9_seen rfl ⟨Nat.le_of_ble_eq_true rfl, Nat.le_of_ble_eq_true rfl⟩ ⟨rfl, rfl⟩ (Nat.le_of_ble_eq_true rfl) sh_0 (by decide) rfl (Nat.le_of_ble_eq_true rfl) (K)
theorem bL_refused_101 {I : Nat → Nat → Int32} {L : Nat → Int64} {Q : Option Value → (Nat → Nat → Int32) → (Nat → Int64) → Prop} {v1 : Int64} {v3 : Int32} {v4 : Int32} {v5 : Int32} {s0 : Int32}  (K1 : (¬ s0 = (-2 : Int32)) → XS mL_refused 300 [(0, .ref 0), (1, .long v1), (3, .int v3), (5, .int v5)] [] I L Q) (K2 : (s0 = (-2 : Int32)) → XS mL_refused 106 [(0, .ref 0), (1, .long v1), (3, .int v3), (4, .int v4), (5, .int v5)] [] I L Q) : XS mL_refused 101 [(0, .ref 0), (1, .long v1), (3, .int v3), (4, .int v4), (5, .int v5)] [.int s0] I L Q := by
  refine x_bipush (v := (-2 : Int32)) dL_refused_101 (by decide) ?_
  exact x_icmp_ne 300 dL_refused_103 (by decide) (fun h => x_sub [0, 1, 2, 4] rfl (K1 h)) (fun h => K2 h)
theorem bL_refused_106 {I : Nat → Nat → Int32} {L : Nat → Int64} {Q : Option Value → (Nat → Nat → Int32) → (Nat → Int64) → Prop} {v1 : Int64} {v3 : Int32} {v4 : Int32} {v5 : Int32}  (K : XS mX9_next 0 [(0, .ref 0), (1, .int v4), (2, .int (0 : Int32)), (3, .int (0 : Int32))] [] I L (fun r I' L' => XS mL_refused 114 [(0, .ref 0), (1, .long v1), (3, .int v3), (4, .int v4), (5, .int v5)] (r.toList ++ []) I' L' Q)) : XS mL_refused 106 [(0, .ref 0), (1, .long v1), (3, .int v3), (4, .int v4), (5, .int v5)] [] I L Q := by
  refine x_aload_n 0 dL_refused_106 rfl rfl ?_
  refine x_iload 3 dL_refused_107 rfl ?_
  refine x_iconst (v := (0 : Int32)) dL_refused_109 (by decide) ?_
  refine x_iconst (v := (0 : Int32)) dL_refused_110 (by decide) ?_
  exact xs_callV mX9_next [.int v4, .int (0 : Int32), .int (0 : Int32)] [] 0 9 3 _ rfl dL_refused_111 ml_L_85 qX9_next rfl ⟨Nat.le_of_ble_eq_true rfl, Nat.le_of_ble_eq_true rfl⟩ ⟨rfl, rfl⟩ (Nat.le_of_ble_eq_true rfl) sh_0 (by decide) rfl (Nat.le_of_ble_eq_true rfl) (K)
theorem bL_refused_114 {I : Nat → Nat → Int32} {L : Nat → Int64} {Q : Option Value → (Nat → Nat → Int32) → (Nat → Int64) → Prop} {v1 : Int64} {v3 : Int32} {v4 : Int32} {v5 : Int32} {s0 : Int32}  (K1 : (¬ s0 = (-2 : Int32)) → XS mL_refused 300 [(0, .ref 0), (1, .long v1), (3, .int v3), (5, .int v5)] [] I L Q) (K2 : (s0 = (-2 : Int32)) → XS mL_refused 119 [(0, .ref 0), (1, .long v1), (3, .int v3), (4, .int v4), (5, .int v5)] [] I L Q) : XS mL_refused 114 [(0, .ref 0), (1, .long v1), (3, .int v3), (4, .int v4), (5, .int v5)] [.int s0] I L Q := by
  refine x_bipush (v := (-2 : Int32)) dL_refused_114 (by decide) ?_
  exact x_icmp_ne 300 dL_refused_116 (by decide) (fun h => x_sub [0, 1, 2, 4] rfl (K1 h)) (fun h => K2 h)
theorem bL_refused_119 {I : Nat → Nat → Int32} {L : Nat → Int64} {Q : Option Value → (Nat → Nat → Int32) → (Nat → Int64) → Prop} {v1 : Int64} {v3 : Int32} {v4 : Int32} {v5 : Int32}  (K : XS mX9_far 0 [(0, .ref 0), (1, .int (0 : Int32)), (2, .int v4), (3, .int (5 : Int32))] [] I L (fun r I' L' => XS mL_refused 127 [(0, .ref 0), (1, .long v1), (3, .int v3), (4, .int v4), (5, .int v5)] (r.toList ++ []) I' L' Q)) : XS mL_refused 119 [(0, .ref 0), (1, .long v1), (3, .int v3), (4, .int v4), (5, .int v5)] [] I L Q := by
  refine x_aload_n 0 dL_refused_119 rfl rfl ?_
  refine x_iconst (v := (0 : Int32)) dL_refused_120 (by decide) ?_
  refine x_iload 3 dL_refused_121 rfl ?_
  refine x_iconst (v := (5 : Int32)) dL_refused_123 (by decide) ?_
  exact xs_callV mX9_far [.int (0 : Int32), .int v4, .int (5 : Int32)] [] 0 9 3 _ rfl dL_refused_124 ml_L_88 qX9_far rfl ⟨Nat.le_of_ble_eq_true rfl, Nat.le_of_ble_eq_true rfl⟩ ⟨rfl, rfl⟩ (Nat.le_of_ble_eq_true rfl) sh_0 (by decide) rfl (Nat.le_of_ble_eq_true rfl) (K)
theorem bL_refused_127 {I : Nat → Nat → Int32} {L : Nat → Int64} {Q : Option Value → (Nat → Nat → Int32) → (Nat → Int64) → Prop} {v1 : Int64} {v3 : Int32} {v4 : Int32} {v5 : Int32} {s0 : Int32}  (K1 : (¬ s0 = (-2 : Int32)) → XS mL_refused 300 [(0, .ref 0), (1, .long v1), (3, .int v3), (5, .int v5)] [] I L Q) (K2 : (s0 = (-2 : Int32)) → XS mL_refused 132 [(0, .ref 0), (1, .long v1), (3, .int v3), (4, .int v4), (5, .int v5)] [] I L Q) : XS mL_refused 127 [(0, .ref 0), (1, .long v1), (3, .int v3), (4, .int v4), (5, .int v5)] [.int s0] I L Q := by
  refine x_bipush (v := (-2 : Int32)) dL_refused_127 (by decide) ?_
  exact x_icmp_ne 300 dL_refused_129 (by decide) (fun h => x_sub [0, 1, 2, 4] rfl (K1 h)) (fun h => K2 h)
theorem bL_refused_132 {I : Nat → Nat → Int32} {L : Nat → Int64} {Q : Option Value → (Nat → Nat → Int32) → (Nat → Int64) → Prop} {v1 : Int64} {v3 : Int32} {v4 : Int32} {v5 : Int32}  (K : XS mX9_space 0 [(0, .ref 0), (1, .int (0 : Int32)), (2, .int v5), (3, .int (5 : Int32))] [] I L (fun r I' L' => XS mL_refused 140 [(0, .ref 0), (1, .long v1), (3, .int v3), (4, .int v4), (5, .int v5)] (r.toList ++ []) I' L' Q)) : XS mL_refused 132 [(0, .ref 0), (1, .long v1), (3, .int v3), (4, .int v4), (5, .int v5)] [] I L Q := by
  refine x_aload_n 0 dL_refused_132 rfl rfl ?_
  refine x_iconst (v := (0 : Int32)) dL_refused_133 (by decide) ?_
  refine x_iload 4 dL_refused_134 rfl ?_
  refine x_iconst (v := (5 : Int32)) dL_refused_136 (by decide) ?_
  exact xs_callV mX9_space [.int (0 : Int32), .int v5, .int (5 : Int32)] [] 0 9 3 _ rfl dL_refused_137 ml_L_91 qX9_space rfl ⟨Nat.le_of_ble_eq_true rfl, Nat.le_of_ble_eq_true rfl⟩ ⟨rfl, rfl⟩ (Nat.le_of_ble_eq_true rfl) sh_0 (by decide) rfl (Nat.le_of_ble_eq_true rfl) (K)
theorem bL_refused_140 {I : Nat → Nat → Int32} {L : Nat → Int64} {Q : Option Value → (Nat → Nat → Int32) → (Nat → Int64) → Prop} {v1 : Int64} {v3 : Int32} {v4 : Int32} {v5 : Int32} {s0 : Int32}  (K1 : (¬ s0 = (-2 : Int32)) → XS mL_refused 300 [(0, .ref 0), (1, .long v1), (3, .int v3), (5, .int v5)] [] I L Q) (K2 : (s0 = (-2 : Int32)) → XS mL_refused 145 [(0, .ref 0), (1, .long v1), (3, .int v3), (4, .int v4), (5, .int v5)] [] I L Q) : XS mL_refused 140 [(0, .ref 0), (1, .long v1), (3, .int v3), (4, .int v4), (5, .int v5)] [.int s0] I L Q := by
  refine x_bipush (v := (-2 : Int32)) dL_refused_140 (by decide) ?_
  exact x_icmp_ne 300 dL_refused_142 (by decide) (fun h => x_sub [0, 1, 2, 4] rfl (K1 h)) (fun h => K2 h)
theorem bL_refused_145 {I : Nat → Nat → Int32} {L : Nat → Int64} {Q : Option Value → (Nat → Nat → Int32) → (Nat → Int64) → Prop} {v1 : Int64} {v3 : Int32} {v4 : Int32} {v5 : Int32}  (K : XS mX9_rings 0 [(0, .ref 0), (1, .int v4)] [] I L (fun r I' L' => XS mL_refused 151 [(0, .ref 0), (1, .long v1), (3, .int v3), (4, .int v4), (5, .int v5)] (r.toList ++ []) I' L' Q)) : XS mL_refused 145 [(0, .ref 0), (1, .long v1), (3, .int v3), (4, .int v4), (5, .int v5)] [] I L Q := by
  refine x_aload_n 0 dL_refused_145 rfl rfl ?_
  refine x_iload 3 dL_refused_146 rfl ?_
  exact xs_callV mX9_rings [.int v4] [] 0 9 1 _ rfl dL_refused_148 ml_L_94 qX9_rings rfl ⟨Nat.le_of_ble_eq_true rfl, Nat.le_of_ble_eq_true rfl⟩ ⟨rfl, rfl⟩ (Nat.le_of_ble_eq_true rfl) sh_0 (by decide) rfl (Nat.le_of_ble_eq_true rfl) (K)
theorem bL_refused_151 {I : Nat → Nat → Int32} {L : Nat → Int64} {Q : Option Value → (Nat → Nat → Int32) → (Nat → Int64) → Prop} {v1 : Int64} {v3 : Int32} {v4 : Int32} {v5 : Int32} {s0 : Int32}  (K1 : (¬ s0 = (-2 : Int32)) → XS mL_refused 300 [(0, .ref 0), (1, .long v1), (3, .int v3), (5, .int v5)] [] I L Q) (K2 : (s0 = (-2 : Int32)) → XS mL_refused 156 [(0, .ref 0), (1, .long v1), (3, .int v3), (4, .int v4), (5, .int v5)] [] I L Q) : XS mL_refused 151 [(0, .ref 0), (1, .long v1), (3, .int v3), (4, .int v4), (5, .int v5)] [.int s0] I L Q := by
  refine x_bipush (v := (-2 : Int32)) dL_refused_151 (by decide) ?_
  exact x_icmp_ne 300 dL_refused_153 (by decide) (fun h => x_sub [0, 1, 2, 4] rfl (K1 h)) (fun h => K2 h)
theorem bL_refused_156 {I : Nat → Nat → Int32} {L : Nat → Int64} {Q : Option Value → (Nat → Nat → Int32) → (Nat → Int64) → Prop} {v1 : Int64} {v3 : Int32} {v4 : Int32} {v5 : Int32}  (K : XS mX9_safe 0 [(0, .ref 0), (1, .int v4)] [] I L (fun r I' L' => XS mL_refused 162 [(0, .ref 0), (1, .long v1), (3, .int v3), (4, .int v4), (5, .int v5)] (r.toList ++ []) I' L' Q)) : XS mL_refused 156 [(0, .ref 0), (1, .long v1), (3, .int v3), (4, .int v4), (5, .int v5)] [] I L Q := by
  refine x_aload_n 0 dL_refused_156 rfl rfl ?_
  refine x_iload 3 dL_refused_157 rfl ?_
  exact xs_callV mX9_safe [.int v4] [] 0 9 1 _ rfl dL_refused_159 ml_L_97 qX9_safe rfl ⟨Nat.le_of_ble_eq_true rfl, Nat.le_of_ble_eq_true rfl⟩ ⟨rfl, rfl⟩ (Nat.le_of_ble_eq_true rfl) sh_0 (by decide) rfl (Nat.le_of_ble_eq_true rfl) (K)
theorem bL_refused_162 {I : Nat → Nat → Int32} {L : Nat → Int64} {Q : Option Value → (Nat → Nat → Int32) → (Nat → Int64) → Prop} {v1 : Int64} {v3 : Int32} {v4 : Int32} {v5 : Int32} {s0 : Int32}  (K1 : (¬ s0 = (-2 : Int32)) → XS mL_refused 300 [(0, .ref 0), (1, .long v1), (3, .int v3), (5, .int v5)] [] I L Q) (K2 : (s0 = (-2 : Int32)) → XS mL_refused 167 [(0, .ref 0), (1, .long v1), (3, .int v3), (4, .int v4), (5, .int v5)] [] I L Q) : XS mL_refused 162 [(0, .ref 0), (1, .long v1), (3, .int v3), (4, .int v4), (5, .int v5)] [.int s0] I L Q := by
  refine x_bipush (v := (-2 : Int32)) dL_refused_162 (by decide) ?_
  exact x_icmp_ne 300 dL_refused_164 (by decide) (fun h => x_sub [0, 1, 2, 4] rfl (K1 h)) (fun h => K2 h)
theorem bL_refused_167 {I : Nat → Nat → Int32} {L : Nat → Int64} {Q : Option Value → (Nat → Nat → Int32) → (Nat → Int64) → Prop} {v1 : Int64} {v3 : Int32} {v4 : Int32} {v5 : Int32}  (K : XS mX9_order 0 [(0, .ref 0), (1, .int (-2 : Int32))] [] I L (fun r I' L' => XS mL_refused 173 [(0, .ref 0), (1, .long v1), (3, .int v3), (4, .int v4), (5, .int v5)] (r.toList ++ []) I' L' Q)) : XS mL_refused 167 [(0, .ref 0), (1, .long v1), (3, .int v3), (4, .int v4), (5, .int v5)] [] I L Q := by
  refine x_aload_n 0 dL_refused_167 rfl rfl ?_
  refine x_bipush (v := (-2 : Int32)) dL_refused_168 (by decide) ?_
  exact xs_callV mX9_order [.int (-2 : Int32)] [] 0 9 1 _ rfl dL_refused_170 ml_L_100 qX9_order rfl ⟨Nat.le_of_ble_eq_true rfl, Nat.le_of_ble_eq_true rfl⟩ ⟨rfl, rfl⟩ (Nat.le_of_ble_eq_true rfl) sh_0 (by decide) rfl (Nat.le_of_ble_eq_true rfl) (K)
theorem bL_refused_173 {I : Nat → Nat → Int32} {L : Nat → Int64} {Q : Option Value → (Nat → Nat → Int32) → (Nat → Int64) → Prop} {v1 : Int64} {v3 : Int32} {v4 : Int32} {v5 : Int32} {s0 : Int32}  (K1 : (¬ s0 = (-3 : Int32)) → XS mL_refused 300 [(0, .ref 0), (1, .long v1), (3, .int v3), (5, .int v5)] [] I L Q) (K2 : (s0 = (-3 : Int32)) → XS mL_refused 178 [(0, .ref 0), (1, .long v1), (3, .int v3), (4, .int v4), (5, .int v5)] [] I L Q) : XS mL_refused 173 [(0, .ref 0), (1, .long v1), (3, .int v3), (4, .int v4), (5, .int v5)] [.int s0] I L Q := by
  refine x_bipush (v := (-3 : Int32)) dL_refused_173 (by decide) ?_
  exact x_icmp_ne 300 dL_refused_175 (by decide) (fun h => x_sub [0, 1, 2, 4] rfl (K1 h)) (fun h => K2 h)
theorem bL_refused_178 {I : Nat → Nat → Int32} {L : Nat → Int64} {Q : Option Value → (Nat → Nat → Int32) → (Nat → Int64) → Prop} {v1 : Int64} {v3 : Int32} {v4 : Int32} {v5 : Int32}  (K : XS mX9_push 0 [(0, .ref 0), (1, .int (3 : Int32)), (2, .int (99 : Int32))] [] I L (fun r I' L' => XS mL_refused 185 [(0, .ref 0), (1, .long v1), (3, .int v3), (4, .int v4), (5, .int v5)] (r.toList ++ []) I' L' Q)) : XS mL_refused 178 [(0, .ref 0), (1, .long v1), (3, .int v3), (4, .int v4), (5, .int v5)] [] I L Q := by
  refine x_aload_n 0 dL_refused_178 rfl rfl ?_
  refine x_iconst (v := (3 : Int32)) dL_refused_179 (by decide) ?_
  refine x_bipush (v := (99 : Int32)) dL_refused_180 (by decide) ?_
  exact xs_callV mX9_push [.int (3 : Int32), .int (99 : Int32)] [] 0 9 2 _ rfl dL_refused_182 ml_L_103 qX9_push rfl ⟨Nat.le_of_ble_eq_true rfl, Nat.le_of_ble_eq_true rfl⟩ ⟨rfl, rfl⟩ (Nat.le_of_ble_eq_true rfl) sh_0 (by decide) rfl (Nat.le_of_ble_eq_true rfl) (K)
theorem bL_refused_185 {I : Nat → Nat → Int32} {L : Nat → Int64} {Q : Option Value → (Nat → Nat → Int32) → (Nat → Int64) → Prop} {v1 : Int64} {v3 : Int32} {v4 : Int32} {v5 : Int32} {s0 : Int32}  (K1 : (¬ s0 = (-3 : Int32)) → XS mL_refused 300 [(0, .ref 0), (1, .long v1), (3, .int v3), (5, .int v5)] [] I L Q) (K2 : (s0 = (-3 : Int32)) → XS mL_refused 190 [(0, .ref 0), (1, .long v1), (3, .int v3), (4, .int v4), (5, .int v5)] [] I L Q) : XS mL_refused 185 [(0, .ref 0), (1, .long v1), (3, .int v3), (4, .int v4), (5, .int v5)] [.int s0] I L Q := by
  refine x_bipush (v := (-3 : Int32)) dL_refused_185 (by decide) ?_
  exact x_icmp_ne 300 dL_refused_187 (by decide) (fun h => x_sub [0, 1, 2, 4] rfl (K1 h)) (fun h => K2 h)
theorem bL_refused_190 {I : Nat → Nat → Int32} {L : Nat → Int64} {Q : Option Value → (Nat → Nat → Int32) → (Nat → Int64) → Prop} {v1 : Int64} {v3 : Int32} {v4 : Int32} {v5 : Int32}  (K : XS mX9_push 0 [(0, .ref 0), (1, .int (0 : Int32)), (2, .int v4)] [] I L (fun r I' L' => XS mL_refused 197 [(0, .ref 0), (1, .long v1), (3, .int v3), (4, .int v4), (5, .int v5)] (r.toList ++ []) I' L' Q)) : XS mL_refused 190 [(0, .ref 0), (1, .long v1), (3, .int v3), (4, .int v4), (5, .int v5)] [] I L Q := by
  refine x_aload_n 0 dL_refused_190 rfl rfl ?_
  refine x_iconst (v := (0 : Int32)) dL_refused_191 (by decide) ?_
  refine x_iload 3 dL_refused_192 rfl ?_
  exact xs_callV mX9_push [.int (0 : Int32), .int v4] [] 0 9 2 _ rfl dL_refused_194 ml_L_103 qX9_push rfl ⟨Nat.le_of_ble_eq_true rfl, Nat.le_of_ble_eq_true rfl⟩ ⟨rfl, rfl⟩ (Nat.le_of_ble_eq_true rfl) sh_0 (by decide) rfl (Nat.le_of_ble_eq_true rfl) (K)
theorem bL_refused_197 {I : Nat → Nat → Int32} {L : Nat → Int64} {Q : Option Value → (Nat → Nat → Int32) → (Nat → Int64) → Prop} {v1 : Int64} {v3 : Int32} {v4 : Int32} {v5 : Int32} {s0 : Int32}  (K1 : (¬ s0 = (-2 : Int32)) → XS mL_refused 300 [(0, .ref 0), (1, .long v1), (3, .int v3), (5, .int v5)] [] I L Q) (K2 : (s0 = (-2 : Int32)) → XS mL_refused 202 [(0, .ref 0), (1, .long v1), (3, .int v3), (4, .int v4), (5, .int v5)] [] I L Q) : XS mL_refused 197 [(0, .ref 0), (1, .long v1), (3, .int v3), (4, .int v4), (5, .int v5)] [.int s0] I L Q := by
  refine x_bipush (v := (-2 : Int32)) dL_refused_197 (by decide) ?_
  exact x_icmp_ne 300 dL_refused_199 (by decide) (fun h => x_sub [0, 1, 2, 4] rfl (K1 h)) (fun h => K2 h)
theorem bL_refused_202 {I : Nat → Nat → Int32} {L : Nat → Int64} {Q : Option Value → (Nat → Nat → Int32) → (Nat → Int64) → Prop} {v1 : Int64} {v3 : Int32} {v4 : Int32} {v5 : Int32}  (K : XS mX9_segment 0 [(0, .ref 0), (1, .int (99 : Int32)), (2, .int (0 : Int32))] [] I L (fun r I' L' => XS mL_refused 209 [(0, .ref 0), (1, .long v1), (3, .int v3), (4, .int v4), (5, .int v5)] (r.toList ++ []) I' L' Q)) : XS mL_refused 202 [(0, .ref 0), (1, .long v1), (3, .int v3), (4, .int v4), (5, .int v5)] [] I L Q := by
  refine x_aload_n 0 dL_refused_202 rfl rfl ?_
  refine x_bipush (v := (99 : Int32)) dL_refused_203 (by decide) ?_
  refine x_iconst (v := (0 : Int32)) dL_refused_205 (by decide) ?_
  exact xs_callV mX9_segment [.int (99 : Int32), .int (0 : Int32)] [] 0 9 2 _ rfl dL_refused_206 ml_L_60 qX9_segment rfl ⟨Nat.le_of_ble_eq_true rfl, Nat.le_of_ble_eq_true rfl⟩ ⟨rfl, rfl⟩ (Nat.le_of_ble_eq_true rfl) sh_0 (by decide) rfl (Nat.le_of_ble_eq_true rfl) (K)
theorem bL_refused_209 {I : Nat → Nat → Int32} {L : Nat → Int64} {Q : Option Value → (Nat → Nat → Int32) → (Nat → Int64) → Prop} {v1 : Int64} {v3 : Int32} {v4 : Int32} {v5 : Int32} {s0 : Int32}  (K1 : (¬ s0 = (-2 : Int32)) → XS mL_refused 300 [(0, .ref 0), (1, .long v1), (3, .int v3), (5, .int v5)] [] I L Q) (K2 : (s0 = (-2 : Int32)) → XS mL_refused 214 [(0, .ref 0), (1, .long v1), (3, .int v3), (4, .int v4), (5, .int v5)] [] I L Q) : XS mL_refused 209 [(0, .ref 0), (1, .long v1), (3, .int v3), (4, .int v4), (5, .int v5)] [.int s0] I L Q := by
  refine x_bipush (v := (-2 : Int32)) dL_refused_209 (by decide) ?_
  exact x_icmp_ne 300 dL_refused_211 (by decide) (fun h => x_sub [0, 1, 2, 4] rfl (K1 h)) (fun h => K2 h)
theorem bL_refused_214 {I : Nat → Nat → Int32} {L : Nat → Int64} {Q : Option Value → (Nat → Nat → Int32) → (Nat → Int64) → Prop} {v1 : Int64} {v3 : Int32} {v4 : Int32} {v5 : Int32}  (K : XS mX9_repair 0 [(0, .ref 0), (1, .int (0 : Int32)), (2, .int v5), (3, .int (1 : Int32)), (4, .int (0 : Int32))] [] I L (fun r I' L' => XS mL_refused 223 [(0, .ref 0), (1, .long v1), (3, .int v3), (4, .int v4), (5, .int v5)] (r.toList ++ []) I' L' Q)) : XS mL_refused 214 [(0, .ref 0), (1, .long v1), (3, .int v3), (4, .int v4), (5, .int v5)] [] I L Q := by
  refine x_aload_n 0 dL_refused_214 rfl rfl ?_
  refine x_iconst (v := (0 : Int32)) dL_refused_215 (by decide) ?_
  refine x_iload 4 dL_refused_216 rfl ?_
  refine x_iconst (v := (1 : Int32)) dL_refused_218 (by decide) ?_
  refine x_iconst (v := (0 : Int32)) dL_refused_219 (by decide) ?_
  exact xs_callV mX9_repair [.int (0 : Int32), .int v5, .int (1 : Int32), .int (0 : Int32)] [] 0 9 4 _ rfl dL_refused_220 ml_L_106 qX9_repair rfl ⟨Nat.le_of_ble_eq_true rfl, Nat.le_of_ble_eq_true rfl⟩ ⟨rfl, rfl⟩ (Nat.le_of_ble_eq_true rfl) sh_0 (by decide) rfl (Nat.le_of_ble_eq_true rfl) (K)
theorem bL_refused_223 {I : Nat → Nat → Int32} {L : Nat → Int64} {Q : Option Value → (Nat → Nat → Int32) → (Nat → Int64) → Prop} {v1 : Int64} {v3 : Int32} {v4 : Int32} {v5 : Int32} {s0 : Int32}  (K1 : (¬ s0 = (-2 : Int32)) → XS mL_refused 300 [(0, .ref 0), (1, .long v1), (3, .int v3), (5, .int v5)] [] I L Q) (K2 : (s0 = (-2 : Int32)) → XS mL_refused 228 [(0, .ref 0), (1, .long v1), (3, .int v3), (4, .int v4), (5, .int v5)] [] I L Q) : XS mL_refused 223 [(0, .ref 0), (1, .long v1), (3, .int v3), (4, .int v4), (5, .int v5)] [.int s0] I L Q := by
  refine x_bipush (v := (-2 : Int32)) dL_refused_223 (by decide) ?_
  exact x_icmp_ne 300 dL_refused_225 (by decide) (fun h => x_sub [0, 1, 2, 4] rfl (K1 h)) (fun h => K2 h)
theorem bL_refused_228 {I : Nat → Nat → Int32} {L : Nat → Int64} {Q : Option Value → (Nat → Nat → Int32) → (Nat → Int64) → Prop} {v1 : Int64} {v3 : Int32} {v4 : Int32} {v5 : Int32}  (K : XS mX9_repair 0 [(0, .ref 0), (1, .int (0 : Int32)), (2, .int (0 : Int32)), (3, .int (0 : Int32)), (4, .int (-2 : Int32))] [] I L (fun r I' L' => XS mL_refused 237 [(0, .ref 0), (1, .long v1), (3, .int v3), (4, .int v4), (5, .int v5)] (r.toList ++ []) I' L' Q)) : XS mL_refused 228 [(0, .ref 0), (1, .long v1), (3, .int v3), (4, .int v4), (5, .int v5)] [] I L Q := by
  refine x_aload_n 0 dL_refused_228 rfl rfl ?_
  refine x_iconst (v := (0 : Int32)) dL_refused_229 (by decide) ?_
  refine x_iconst (v := (0 : Int32)) dL_refused_230 (by decide) ?_
  refine x_iconst (v := (0 : Int32)) dL_refused_231 (by decide) ?_
  refine x_bipush (v := (-2 : Int32)) dL_refused_232 (by decide) ?_
  exact xs_callV mX9_repair [.int (0 : Int32), .int (0 : Int32), .int (0 : Int32), .int (-2 : Int32)] [] 0 9 4 _ rfl dL_refused_234 ml_L_106 qX9_repair rfl ⟨Nat.le_of_ble_eq_true rfl, Nat.le_of_ble_eq_true rfl⟩ ⟨rfl, rfl⟩ (Nat.le_of_ble_eq_true rfl) sh_0 (by decide) rfl (Nat.le_of_ble_eq_true rfl) (K)
theorem bL_refused_237 {I : Nat → Nat → Int32} {L : Nat → Int64} {Q : Option Value → (Nat → Nat → Int32) → (Nat → Int64) → Prop} {v1 : Int64} {v3 : Int32} {v4 : Int32} {v5 : Int32} {s0 : Int32}  (K1 : (¬ s0 = (-2 : Int32)) → XS mL_refused 300 [(0, .ref 0), (1, .long v1), (3, .int v3), (5, .int v5)] [] I L Q) (K2 : (s0 = (-2 : Int32)) → XS mL_refused 242 [(0, .ref 0), (1, .long v1), (3, .int v3), (4, .int v4), (5, .int v5)] [] I L Q) : XS mL_refused 237 [(0, .ref 0), (1, .long v1), (3, .int v3), (4, .int v4), (5, .int v5)] [.int s0] I L Q := by
  refine x_bipush (v := (-2 : Int32)) dL_refused_237 (by decide) ?_
  exact x_icmp_ne 300 dL_refused_239 (by decide) (fun h => x_sub [0, 1, 2, 4] rfl (K1 h)) (fun h => K2 h)
theorem bL_refused_242 {I : Nat → Nat → Int32} {L : Nat → Int64} {Q : Option Value → (Nat → Nat → Int32) → (Nat → Int64) → Prop} {v1 : Int64} {v3 : Int32} {v4 : Int32} {v5 : Int32}  (K : XS mX9_trace 0 [(0, .ref 0), (1, .int v4)] [] I L (fun r I' L' => XS mL_refused 248 [(0, .ref 0), (1, .long v1), (3, .int v3), (4, .int v4), (5, .int v5)] (r.toList ++ []) I' L' Q)) : XS mL_refused 242 [(0, .ref 0), (1, .long v1), (3, .int v3), (4, .int v4), (5, .int v5)] [] I L Q := by
  refine x_aload_n 0 dL_refused_242 rfl rfl ?_
  refine x_iload 3 dL_refused_243 rfl ?_
  exact xs_callV mX9_trace [.int v4] [] 0 9 1 _ rfl dL_refused_245 ml_L_110 qX9_trace rfl ⟨Nat.le_of_ble_eq_true rfl, Nat.le_of_ble_eq_true rfl⟩ ⟨rfl, rfl⟩ (Nat.le_of_ble_eq_true rfl) sh_0 (by decide) rfl (Nat.le_of_ble_eq_true rfl) (K)
theorem bL_refused_248 {I : Nat → Nat → Int32} {L : Nat → Int64} {Q : Option Value → (Nat → Nat → Int32) → (Nat → Int64) → Prop} {v1 : Int64} {v3 : Int32} {v4 : Int32} {v5 : Int32} {s0 : Int32}  (K1 : (¬ s0 = (-2 : Int32)) → XS mL_refused 300 [(0, .ref 0), (1, .long v1), (3, .int v3), (5, .int v5)] [] I L Q) (K2 : (s0 = (-2 : Int32)) → XS mL_refused 253 [(0, .ref 0), (1, .long v1), (3, .int v3), (4, .int v4), (5, .int v5)] [] I L Q) : XS mL_refused 248 [(0, .ref 0), (1, .long v1), (3, .int v3), (4, .int v4), (5, .int v5)] [.int s0] I L Q := by
  refine x_bipush (v := (-2 : Int32)) dL_refused_248 (by decide) ?_
  exact x_icmp_ne 300 dL_refused_250 (by decide) (fun h => x_sub [0, 1, 2, 4] rfl (K1 h)) (fun h => K2 h)
theorem bL_refused_253 {I : Nat → Nat → Int32} {L : Nat → Int64} {Q : Option Value → (Nat → Nat → Int32) → (Nat → Int64) → Prop} {v1 : Int64} {v3 : Int32} {v4 : Int32} {v5 : Int32}  (K : XS mX9_brief 0 [(0, .ref 0), (1, .int (-2 : Int32))] [] I L (fun r I' L' => XS mL_refused 259 [(0, .ref 0), (1, .long v1), (3, .int v3), (4, .int v4), (5, .int v5)] (r.toList ++ []) I' L' Q)) : XS mL_refused 253 [(0, .ref 0), (1, .long v1), (3, .int v3), (4, .int v4), (5, .int v5)] [] I L Q := by
  refine x_aload_n 0 dL_refused_253 rfl rfl ?_
  refine x_bipush (v := (-2 : Int32)) dL_refused_254 (by decide) ?_
  exact xs_callV mX9_brief [.int (-2 : Int32)] [] 0 9 1 _ rfl dL_refused_256 ml_L_63 qX9_brief rfl ⟨Nat.le_of_ble_eq_true rfl, Nat.le_of_ble_eq_true rfl⟩ ⟨rfl, rfl⟩ (Nat.le_of_ble_eq_true rfl) sh_0 (by decide) rfl (Nat.le_of_ble_eq_true rfl) (K)
theorem bL_refused_259 {I : Nat → Nat → Int32} {L : Nat → Int64} {Q : Option Value → (Nat → Nat → Int32) → (Nat → Int64) → Prop} {v1 : Int64} {v3 : Int32} {v4 : Int32} {v5 : Int32} {s0 : Int32}  (K1 : (¬ s0 = (-3 : Int32)) → XS mL_refused 300 [(0, .ref 0), (1, .long v1), (3, .int v3), (5, .int v5)] [] I L Q) (K2 : (s0 = (-3 : Int32)) → XS mL_refused 264 [(0, .ref 0), (1, .long v1), (3, .int v3), (4, .int v4), (5, .int v5)] [] I L Q) : XS mL_refused 259 [(0, .ref 0), (1, .long v1), (3, .int v3), (4, .int v4), (5, .int v5)] [.int s0] I L Q := by
  refine x_bipush (v := (-3 : Int32)) dL_refused_259 (by decide) ?_
  exact x_icmp_ne 300 dL_refused_261 (by decide) (fun h => x_sub [0, 1, 2, 4] rfl (K1 h)) (fun h => K2 h)
theorem bL_refused_264 {I : Nat → Nat → Int32} {L : Nat → Int64} {Q : Option Value → (Nat → Nat → Int32) → (Nat → Int64) → Prop} {v1 : Int64} {v3 : Int32} {v4 : Int32} {v5 : Int32}  (K : XS mX9_protect 0 [(0, .ref 0), (1, .int (2 : Int32))] [] I L (fun r I' L' => XS mL_refused 269 [(0, .ref 0), (1, .long v1), (3, .int v3), (4, .int v4), (5, .int v5)] (r.toList ++ []) I' L' Q)) : XS mL_refused 264 [(0, .ref 0), (1, .long v1), (3, .int v3), (4, .int v4), (5, .int v5)] [] I L Q := by
  refine x_aload_n 0 dL_refused_264 rfl rfl ?_
  refine x_iconst (v := (2 : Int32)) dL_refused_265 (by decide) ?_
  exact xs_callV mX9_protect [.int (2 : Int32)] [] 0 9 1 _ rfl dL_refused_266 ml_L_113 qX9_protect rfl ⟨Nat.le_of_ble_eq_true rfl, Nat.le_of_ble_eq_true rfl⟩ ⟨rfl, rfl⟩ (Nat.le_of_ble_eq_true rfl) sh_0 (by decide) rfl (Nat.le_of_ble_eq_true rfl) (K)
theorem bL_refused_269 {I : Nat → Nat → Int32} {L : Nat → Int64} {Q : Option Value → (Nat → Nat → Int32) → (Nat → Int64) → Prop} {v1 : Int64} {v3 : Int32} {v4 : Int32} {v5 : Int32} {s0 : Int32}  (K1 : (¬ s0 = (-3 : Int32)) → XS mL_refused 300 [(0, .ref 0), (1, .long v1), (3, .int v3), (5, .int v5)] [] I L Q) (K2 : (s0 = (-3 : Int32)) → XS mL_refused 274 [(0, .ref 0), (1, .long v1), (3, .int v3), (4, .int v4), (5, .int v5)] [] I L Q) : XS mL_refused 269 [(0, .ref 0), (1, .long v1), (3, .int v3), (4, .int v4), (5, .int v5)] [.int s0] I L Q := by
  refine x_bipush (v := (-3 : Int32)) dL_refused_269 (by decide) ?_
  exact x_icmp_ne 300 dL_refused_271 (by decide) (fun h => x_sub [0, 1, 2, 4] rfl (K1 h)) (fun h => K2 h)
theorem bL_refused_274 {I : Nat → Nat → Int32} {L : Nat → Int64} {Q : Option Value → (Nat → Nat → Int32) → (Nat → Int64) → Prop} {v1 : Int64} {v3 : Int32} {v4 : Int32} {v5 : Int32}  (K : XS mX9_send 0 [(0, .ref 0), (1, .int v4)] [] I L (fun r I' L' => XS mL_refused 280 [(0, .ref 0), (1, .long v1), (3, .int v3), (5, .int v5)] (r.toList ++ []) I' L' Q)) : XS mL_refused 274 [(0, .ref 0), (1, .long v1), (3, .int v3), (4, .int v4), (5, .int v5)] [] I L Q := by
  refine x_aload_n 0 dL_refused_274 rfl rfl ?_
  refine x_iload 3 dL_refused_275 rfl ?_
  refine x_sub [0, 1, 2, 4] rfl ?_
  exact xs_callV mX9_send [.int v4] [] 0 9 1 _ rfl dL_refused_277 ml_L_116 qX9_send rfl ⟨Nat.le_of_ble_eq_true rfl, Nat.le_of_ble_eq_true rfl⟩ ⟨rfl, rfl⟩ (Nat.le_of_ble_eq_true rfl) sh_0 (by decide) rfl (Nat.le_of_ble_eq_true rfl) (K)
theorem bL_refused_280 {I : Nat → Nat → Int32} {L : Nat → Int64} {Q : Option Value → (Nat → Nat → Int32) → (Nat → Int64) → Prop} {v1 : Int64} {v3 : Int32} {v5 : Int32} {s0 : Int32}  (K1 : (¬ s0 = (-2 : Int32)) → XS mL_refused 300 [(0, .ref 0), (1, .long v1), (3, .int v3), (5, .int v5)] [] I L Q) (K2 : (s0 = (-2 : Int32)) → XS mL_refused 285 [(0, .ref 0), (1, .long v1), (3, .int v3), (5, .int v5)] [] I L Q) : XS mL_refused 280 [(0, .ref 0), (1, .long v1), (3, .int v3), (5, .int v5)] [.int s0] I L Q := by
  refine x_bipush (v := (-2 : Int32)) dL_refused_280 (by decide) ?_
  exact x_icmp_ne 300 dL_refused_282 (by decide) (fun h => K1 h) (fun h => K2 h)
theorem bL_refused_285 {I : Nat → Nat → Int32} {L : Nat → Int64} {Q : Option Value → (Nat → Nat → Int32) → (Nat → Int64) → Prop} {v1 : Int64} {v3 : Int32} {v5 : Int32}  (K : XS mX9_way 0 [(0, .ref 0), (1, .int (-2 : Int32))] [] I L (fun r I' L' => XS mL_refused 291 [(0, .ref 0), (1, .long v1), (3, .int v3), (5, .int v5)] (r.toList ++ []) I' L' Q)) : XS mL_refused 285 [(0, .ref 0), (1, .long v1), (3, .int v3), (5, .int v5)] [] I L Q := by
  refine x_aload_n 0 dL_refused_285 rfl rfl ?_
  refine x_bipush (v := (-2 : Int32)) dL_refused_286 (by decide) ?_
  exact xs_callV mX9_way [.int (-2 : Int32)] [] 0 9 1 _ rfl dL_refused_288 ml_L_119 qX9_way rfl ⟨Nat.le_of_ble_eq_true rfl, Nat.le_of_ble_eq_true rfl⟩ ⟨rfl, rfl⟩ (Nat.le_of_ble_eq_true rfl) sh_0 (by decide) rfl (Nat.le_of_ble_eq_true rfl) (K)
theorem bL_refused_291 {I : Nat → Nat → Int32} {L : Nat → Int64} {Q : Option Value → (Nat → Nat → Int32) → (Nat → Int64) → Prop} {v1 : Int64} {v3 : Int32} {v5 : Int32} {s0 : Int32}  (K1 : (¬ s0 = (-3 : Int32)) → XS mL_refused 300 [(0, .ref 0), (1, .long v1), (3, .int v3), (5, .int v5)] [] I L Q) (K2 : (s0 = (-3 : Int32)) → XS mL_refused 296 [(0, .ref 0), (1, .long v1), (3, .int v3), (5, .int v5)] [] I L Q) : XS mL_refused 291 [(0, .ref 0), (1, .long v1), (3, .int v3), (5, .int v5)] [.int s0] I L Q := by
  refine x_bipush (v := (-3 : Int32)) dL_refused_291 (by decide) ?_
  exact x_icmp_ne 300 dL_refused_293 (by decide) (fun h => K1 h) (fun h => K2 h)
theorem bL_refused_296 {I : Nat → Nat → Int32} {L : Nat → Int64} {Q : Option Value → (Nat → Nat → Int32) → (Nat → Int64) → Prop} {v1 : Int64} {v3 : Int32} {v5 : Int32}  (K : XS mL_refused 301 [(0, .ref 0), (1, .long v1), (3, .int v3), (5, .int v5)] [.int (1 : Int32)] I L Q) : XS mL_refused 296 [(0, .ref 0), (1, .long v1), (3, .int v3), (5, .int v5)] [] I L Q := by
  refine x_iconst (v := (1 : Int32)) dL_refused_296 (by decide) ?_
  exact x_goto 301 dL_refused_297 (by decide) (K)
theorem bL_refused_300 {I : Nat → Nat → Int32} {L : Nat → Int64} {Q : Option Value → (Nat → Nat → Int32) → (Nat → Int64) → Prop} {v1 : Int64} {v3 : Int32} {v5 : Int32}  (K : XS mL_refused 301 [(0, .ref 0), (1, .long v1), (3, .int v3), (5, .int v5)] [.int (0 : Int32)] I L Q) : XS mL_refused 300 [(0, .ref 0), (1, .long v1), (3, .int v3), (5, .int v5)] [] I L Q := by
  refine x_iconst (v := (0 : Int32)) dL_refused_300 (by decide) ?_
  exact K
theorem bL_refused_301 {I : Nat → Nat → Int32} {L : Nat → Int64} {Q : Option Value → (Nat → Nat → Int32) → (Nat → Int64) → Prop} {v1 : Int64} {v3 : Int32} {v5 : Int32} {s0 : Int32}  (K : XS mL_refused 306 [(0, .ref 0), (1, .long v1), (3, .int v3), (5, .int v5), (6, .int s0), (7, .int (0 : Int32))] [] I L Q) : XS mL_refused 301 [(0, .ref 0), (1, .long v1), (3, .int v3), (5, .int v5)] [.int s0] I L Q := by
  refine x_istore [(0, .ref 0), (1, .long v1), (3, .int v3), (5, .int v5), (6, .int s0)] dL_refused_301 (Nat.le_of_ble_eq_true rfl) rfl ?_
  refine x_iconst (v := (0 : Int32)) dL_refused_303 (by decide) ?_
  refine x_istore [(0, .ref 0), (1, .long v1), (3, .int v3), (5, .int v5), (6, .int s0), (7, .int (0 : Int32))] dL_refused_304 (Nat.le_of_ble_eq_true rfl) rfl ?_
  exact K
theorem bL_refused_306 {I : Nat → Nat → Int32} {L : Nat → Int64} {Q : Option Value → (Nat → Nat → Int32) → (Nat → Int64) → Prop} {v1 : Int64} {v3 : Int32} {v5 : Int32} {v6 : Int32} {v7 : Int32}  (K1 : (v5 ≤ v7) → XS mL_refused 362 [(0, .ref 0), (1, .long v1), (3, .int v3), (6, .int v6)] [] I L Q) (K2 : (¬ v5 ≤ v7) → XS mL_refused 313 [(0, .ref 0), (1, .long v1), (3, .int v3), (5, .int v5), (6, .int v6), (7, .int v7)] [] I L Q) : XS mL_refused 306 [(0, .ref 0), (1, .long v1), (3, .int v3), (5, .int v5), (6, .int v6), (7, .int v7)] [] I L Q := by
  refine x_iload 5 dL_refused_306 rfl ?_
  refine x_iload 3 dL_refused_308 rfl ?_
  exact x_icmp_ge 362 dL_refused_310 (by decide) (fun h => x_sub [0, 1, 2, 4] rfl (K1 h)) (fun h => K2 h)
theorem bL_refused_313 {I : Nat → Nat → Int32} {L : Nat → Int64} {Q : Option Value → (Nat → Nat → Int32) → (Nat → Int64) → Prop} {v1 : Int64} {v3 : Int32} {v5 : Int32} {v6 : Int32} {v7 : Int32}  (K1 : (v6 = 0) → XS mL_refused 353 [(0, .ref 0), (1, .long v1), (3, .int v3), (5, .int v5), (7, .int v7)] [] I L Q) (K2 : (¬ v6 = 0) → XS mL_refused 318 [(0, .ref 0), (1, .long v1), (3, .int v3), (5, .int v5), (7, .int v7)] [] I L Q) : XS mL_refused 313 [(0, .ref 0), (1, .long v1), (3, .int v3), (5, .int v5), (6, .int v6), (7, .int v7)] [] I L Q := by
  refine x_iload 4 dL_refused_313 rfl ?_
  exact x_if_eq 353 dL_refused_315 (by decide) (fun h => x_sub [0, 1, 2, 3, 5] rfl (K1 h)) (fun h => x_sub [0, 1, 2, 3, 5] rfl (K2 h))
theorem bL_refused_318 {I : Nat → Nat → Int32} {L : Nat → Int64} {Q : Option Value → (Nat → Nat → Int32) → (Nat → Int64) → Prop} {v1 : Int64} {v3 : Int32} {v5 : Int32} {v7 : Int32}  (K : XS mX9_link 0 [(0, .ref 0), (1, .int v7), (2, .int (4 : Int32))] [] I L (fun r I' L' => XS mL_refused 325 [(0, .ref 0), (1, .long v1), (3, .int v3), (5, .int v5), (7, .int v7)] (r.toList ++ []) I' L' Q)) : XS mL_refused 318 [(0, .ref 0), (1, .long v1), (3, .int v3), (5, .int v5), (7, .int v7)] [] I L Q := by
  refine x_aload_n 0 dL_refused_318 rfl rfl ?_
  refine x_iload 4 dL_refused_319 rfl ?_
  refine x_iconst (v := (4 : Int32)) dL_refused_321 (by decide) ?_
  exact xs_callV mX9_link [.int v7, .int (4 : Int32)] [] 0 9 2 _ rfl dL_refused_322 ml_L_52 qX9_link rfl ⟨Nat.le_of_ble_eq_true rfl, Nat.le_of_ble_eq_true rfl⟩ ⟨rfl, rfl⟩ (Nat.le_of_ble_eq_true rfl) sh_0 (by decide) rfl (Nat.le_of_ble_eq_true rfl) (K)
theorem bL_refused_325 {I : Nat → Nat → Int32} {L : Nat → Int64} {Q : Option Value → (Nat → Nat → Int32) → (Nat → Int64) → Prop} {v1 : Int64} {v3 : Int32} {v5 : Int32} {v7 : Int32} {s0 : Int32}  (K1 : (¬ s0 = (1 : Int32)) → XS mL_refused 338 [(0, .ref 0), (1, .long v1), (3, .int v3), (5, .int v5), (7, .int v7)] [] I L Q) (K2 : (s0 = (1 : Int32)) → XS mL_refused 329 [(0, .ref 0), (1, .long v1), (3, .int v3), (5, .int v5), (7, .int v7)] [] I L Q) : XS mL_refused 325 [(0, .ref 0), (1, .long v1), (3, .int v3), (5, .int v5), (7, .int v7)] [.int s0] I L Q := by
  refine x_iconst (v := (1 : Int32)) dL_refused_325 (by decide) ?_
  exact x_icmp_ne 338 dL_refused_326 (by decide) (fun h => K1 h) (fun h => K2 h)
theorem bL_refused_329 {I : Nat → Nat → Int32} {L : Nat → Int64} {Q : Option Value → (Nat → Nat → Int32) → (Nat → Int64) → Prop} {v1 : Int64} {v3 : Int32} {v5 : Int32} {v7 : Int32}  (K : XS mX9_heal 0 [(0, .ref 0), (1, .int v7)] [] I L (fun r I' L' => XS mL_refused 335 [(0, .ref 0), (1, .long v1), (3, .int v3), (5, .int v5), (7, .int v7)] (r.toList ++ []) I' L' Q)) : XS mL_refused 329 [(0, .ref 0), (1, .long v1), (3, .int v3), (5, .int v5), (7, .int v7)] [] I L Q := by
  refine x_aload_n 0 dL_refused_329 rfl rfl ?_
  refine x_iload 4 dL_refused_330 rfl ?_
  exact xs_callV mX9_heal [.int v7] [] 0 9 1 _ rfl dL_refused_332 ml_L_75 qX9_heal rfl ⟨Nat.le_of_ble_eq_true rfl, Nat.le_of_ble_eq_true rfl⟩ ⟨rfl, rfl⟩ (Nat.le_of_ble_eq_true rfl) sh_0 (by decide) rfl (Nat.le_of_ble_eq_true rfl) (K)
theorem bL_refused_335 {I : Nat → Nat → Int32} {L : Nat → Int64} {Q : Option Value → (Nat → Nat → Int32) → (Nat → Int64) → Prop} {v1 : Int64} {v3 : Int32} {v5 : Int32} {v7 : Int32} {s0 : Int32}  (K : XS mL_refused 344 [(0, .ref 0), (1, .long v1), (3, .int v3), (5, .int v5), (7, .int v7)] [.int s0] I L Q) : XS mL_refused 335 [(0, .ref 0), (1, .long v1), (3, .int v3), (5, .int v5), (7, .int v7)] [.int s0] I L Q := by
  exact x_goto 344 dL_refused_335 (by decide) (K)
theorem bL_refused_338 {I : Nat → Nat → Int32} {L : Nat → Int64} {Q : Option Value → (Nat → Nat → Int32) → (Nat → Int64) → Prop} {v1 : Int64} {v3 : Int32} {v5 : Int32} {v7 : Int32}  (K : XS mX9_fail 0 [(0, .ref 0), (1, .int v7)] [] I L (fun r I' L' => XS mL_refused 344 [(0, .ref 0), (1, .long v1), (3, .int v3), (5, .int v5), (7, .int v7)] (r.toList ++ []) I' L' Q)) : XS mL_refused 338 [(0, .ref 0), (1, .long v1), (3, .int v3), (5, .int v5), (7, .int v7)] [] I L Q := by
  refine x_aload_n 0 dL_refused_338 rfl rfl ?_
  refine x_iload 4 dL_refused_339 rfl ?_
  exact xs_callV mX9_fail [.int v7] [] 0 9 1 _ rfl dL_refused_341 ml_L_72 qX9_fail rfl ⟨Nat.le_of_ble_eq_true rfl, Nat.le_of_ble_eq_true rfl⟩ ⟨rfl, rfl⟩ (Nat.le_of_ble_eq_true rfl) sh_0 (by decide) rfl (Nat.le_of_ble_eq_true rfl) (K)
theorem bL_refused_344 {I : Nat → Nat → Int32} {L : Nat → Int64} {Q : Option Value → (Nat → Nat → Int32) → (Nat → Int64) → Prop} {v1 : Int64} {v3 : Int32} {v5 : Int32} {v7 : Int32} {s0 : Int32}  (K1 : (¬ s0 = (-4 : Int32)) → XS mL_refused 353 [(0, .ref 0), (1, .long v1), (3, .int v3), (5, .int v5), (7, .int v7)] [] I L Q) (K2 : (s0 = (-4 : Int32)) → XS mL_refused 349 [(0, .ref 0), (1, .long v1), (3, .int v3), (5, .int v5), (7, .int v7)] [] I L Q) : XS mL_refused 344 [(0, .ref 0), (1, .long v1), (3, .int v3), (5, .int v5), (7, .int v7)] [.int s0] I L Q := by
  refine x_bipush (v := (-4 : Int32)) dL_refused_344 (by decide) ?_
  exact x_icmp_ne 353 dL_refused_346 (by decide) (fun h => K1 h) (fun h => K2 h)
theorem bL_refused_349 {I : Nat → Nat → Int32} {L : Nat → Int64} {Q : Option Value → (Nat → Nat → Int32) → (Nat → Int64) → Prop} {v1 : Int64} {v3 : Int32} {v5 : Int32} {v7 : Int32}  (K : XS mL_refused 354 [(0, .ref 0), (1, .long v1), (3, .int v3), (5, .int v5), (7, .int v7)] [.int (1 : Int32)] I L Q) : XS mL_refused 349 [(0, .ref 0), (1, .long v1), (3, .int v3), (5, .int v5), (7, .int v7)] [] I L Q := by
  refine x_iconst (v := (1 : Int32)) dL_refused_349 (by decide) ?_
  exact x_goto 354 dL_refused_350 (by decide) (K)
theorem bL_refused_353 {I : Nat → Nat → Int32} {L : Nat → Int64} {Q : Option Value → (Nat → Nat → Int32) → (Nat → Int64) → Prop} {v1 : Int64} {v3 : Int32} {v5 : Int32} {v7 : Int32}  (K : XS mL_refused 354 [(0, .ref 0), (1, .long v1), (3, .int v3), (5, .int v5), (7, .int v7)] [.int (0 : Int32)] I L Q) : XS mL_refused 353 [(0, .ref 0), (1, .long v1), (3, .int v3), (5, .int v5), (7, .int v7)] [] I L Q := by
  refine x_iconst (v := (0 : Int32)) dL_refused_353 (by decide) ?_
  exact K
theorem bL_refused_354 {I : Nat → Nat → Int32} {L : Nat → Int64} {Q : Option Value → (Nat → Nat → Int32) → (Nat → Int64) → Prop} {v1 : Int64} {v3 : Int32} {v5 : Int32} {v7 : Int32} {s0 : Int32}  (K : XS mL_refused 306 [(0, .ref 0), (1, .long v1), (3, .int v3), (5, .int v5), (6, .int s0), (7, .int (v7 + (1 : Int32)))] [] I L Q) : XS mL_refused 354 [(0, .ref 0), (1, .long v1), (3, .int v3), (5, .int v5), (7, .int v7)] [.int s0] I L Q := by
  refine x_istore [(0, .ref 0), (1, .long v1), (3, .int v3), (5, .int v5), (6, .int s0), (7, .int v7)] dL_refused_354 (Nat.le_of_ble_eq_true rfl) rfl ?_
  refine x_iinc 5 (v7 + (1 : Int32)) [(0, .ref 0), (1, .long v1), (3, .int v3), (5, .int v5), (6, .int s0), (7, .int (v7 + (1 : Int32)))] dL_refused_356 rfl rfl (Nat.le_of_ble_eq_true rfl) rfl ?_
  exact x_goto 306 dL_refused_359 (by decide) (K)
theorem bL_refused_362 {I : Nat → Nat → Int32} {L : Nat → Int64} {Q : Option Value → (Nat → Nat → Int32) → (Nat → Int64) → Prop} {v1 : Int64} {v3 : Int32} {v6 : Int32}  (K1 : (v6 = 0) → XS mL_refused 390 [] [] I L Q) (K2 : (¬ v6 = 0) → XS mL_refused 367 [(0, .ref 0), (1, .long v1), (3, .int v3)] [] I L Q) : XS mL_refused 362 [(0, .ref 0), (1, .long v1), (3, .int v3), (6, .int v6)] [] I L Q := by
  refine x_iload 3 dL_refused_362 rfl ?_
  exact x_if_eq 390 dL_refused_364 (by decide) (fun h => x_sub [] rfl (K1 h)) (fun h => x_sub [0, 1, 2] rfl (K2 h))
theorem bL_refused_367 {I : Nat → Nat → Int32} {L : Nat → Int64} {Q : Option Value → (Nat → Nat → Int32) → (Nat → Int64) → Prop} {v1 : Int64} {v3 : Int32}  (K : XS mL_whole 0 [(0, .ref 0)] [] I L (fun r I' L' => XS mL_refused 371 [(0, .ref 0), (1, .long v1), (3, .int v3)] (r.toList ++ []) I' L' Q)) : XS mL_refused 367 [(0, .ref 0), (1, .long v1), (3, .int v3)] [] I L Q := by
  refine x_aload_n 0 dL_refused_367 rfl rfl ?_
  exact xs_callS mL_whole [.ref 0] [] 1 _ rfl dL_refused_368 ml_L_68 qL_whole rfl ⟨Nat.le_of_ble_eq_true rfl, Nat.le_of_ble_eq_true rfl⟩ ⟨rfl, rfl⟩ (Nat.le_of_ble_eq_true rfl) (Nat.le_of_ble_eq_true rfl) (K)
theorem bL_refused_371 {I : Nat → Nat → Int32} {L : Nat → Int64} {Q : Option Value → (Nat → Nat → Int32) → (Nat → Int64) → Prop} {v1 : Int64} {v3 : Int32} {s0 : Int64}  (K1 : (¬ (lg_cmp s0 v1) = 0) → XS mL_refused 390 [] [] I L Q) (K2 : ((lg_cmp s0 v1) = 0) → XS mL_refused 376 [(0, .ref 0), (3, .int v3)] [] I L Q) : XS mL_refused 371 [(0, .ref 0), (1, .long v1), (3, .int v3)] [.long s0] I L Q := by
  refine x_lload_n 1 dL_refused_371 rfl rfl ?_
  refine x_lcmp dL_refused_372 ?_
  exact x_if_ne 390 dL_refused_373 (by decide) (fun h => x_sub [] rfl (K1 h)) (fun h => x_sub [0, 2] rfl (K2 h))
theorem bL_refused_376 {I : Nat → Nat → Int32} {L : Nat → Int64} {Q : Option Value → (Nat → Nat → Int32) → (Nat → Int64) → Prop} {v3 : Int32}  (K : XS mX9_count 0 [(0, .ref 0), (1, .int (11 : Int32))] [] I L (fun r I' L' => XS mL_refused 382 [(3, .int v3)] (r.toList ++ []) I' L' Q)) : XS mL_refused 376 [(0, .ref 0), (3, .int v3)] [] I L Q := by
  refine x_aload_n 0 dL_refused_376 rfl rfl ?_
  refine x_bipush (v := (11 : Int32)) dL_refused_377 (by decide) ?_
  refine x_sub [1] rfl ?_
  exact xs_callV mX9_count [.int (11 : Int32)] [] 0 9 1 _ rfl dL_refused_379 ml_L_39 qX9_count rfl ⟨Nat.le_of_ble_eq_true rfl, Nat.le_of_ble_eq_true rfl⟩ ⟨rfl, rfl⟩ (Nat.le_of_ble_eq_true rfl) sh_0 (by decide) rfl (Nat.le_of_ble_eq_true rfl) (K)
theorem bL_refused_382 {I : Nat → Nat → Int32} {L : Nat → Int64} {Q : Option Value → (Nat → Nat → Int32) → (Nat → Int64) → Prop} {v3 : Int32} {s0 : Int32}  (K1 : (¬ s0 = v3) → XS mL_refused 390 [] [] I L Q) (K2 : (s0 = v3) → XS mL_refused 386 [] [] I L Q) : XS mL_refused 382 [(3, .int v3)] [.int s0] I L Q := by
  refine x_iload_n 0 dL_refused_382 rfl rfl ?_
  exact x_icmp_ne 390 dL_refused_383 (by decide) (fun h => x_sub [] rfl (K1 h)) (fun h => x_sub [] rfl (K2 h))
theorem bL_refused_386 {I : Nat → Nat → Int32} {L : Nat → Int64} {Q : Option Value → (Nat → Nat → Int32) → (Nat → Int64) → Prop}   (K : XS mL_refused 391 [] [.int (1 : Int32)] I L Q) : XS mL_refused 386 [] [] I L Q := by
  refine x_iconst (v := (1 : Int32)) dL_refused_386 (by decide) ?_
  exact x_goto 391 dL_refused_387 (by decide) (K)
theorem bL_refused_390 {I : Nat → Nat → Int32} {L : Nat → Int64} {Q : Option Value → (Nat → Nat → Int32) → (Nat → Int64) → Prop}   (K : XS mL_refused 391 [] [.int (0 : Int32)] I L Q) : XS mL_refused 390 [] [] I L Q := by
  refine x_iconst (v := (0 : Int32)) dL_refused_390 (by decide) ?_
  exact K
theorem bL_refused_391 {I : Nat → Nat → Int32} {L : Nat → Int64} {Q : Option Value → (Nat → Nat → Int32) → (Nat → Int64) → Prop} {s0 : Int32} (hz1 : s0 = 0 ∨ s0 = 1) (K : Q (some (.int s0)) I L) : XS mL_refused 391 [] [.int s0] I L Q := by
  exact xs_iret dL_refused_391 rfl (x_nar _ hz1) K
