/-! ===== blocks ===== -/
theorem bL_faults_0 {I : Nat → Nat → Int32} {L : Nat → Int64} {Q : Option Value → (Nat → Nat → Int32) → (Nat → Int64) → Prop}   (K : XS mL_whole 0 [(0, .ref 0)] [] I L (fun r I' L' => XS mL_faults 4 [(0, .ref 0)] (r.toList ++ []) I' L' Q)) : XS mL_faults 0 [(0, .ref 0)] [] I L Q := by
  refine x_aload_n 0 dL_faults_0 rfl rfl ?_
  exact xs_callS mL_whole [.ref 0] [] 1 _ rfl dL_faults_1 ml_L_68 qL_whole rfl ⟨Nat.le_of_ble_eq_true rfl, Nat.le_of_ble_eq_true rfl⟩ ⟨rfl, rfl⟩ (Nat.le_of_ble_eq_true rfl) (Nat.le_of_ble_eq_true rfl) (K)
theorem bL_faults_4 {I : Nat → Nat → Int32} {L : Nat → Int64} {Q : Option Value → (Nat → Nat → Int32) → (Nat → Int64) → Prop} {s0 : Int64}  (K : XS mX9_count 0 [(0, .ref 0), (1, .int (11 : Int32))] [] I L (fun r I' L' => XS mL_faults 11 [(0, .ref 0), (1, .long s0)] (r.toList ++ []) I' L' Q)) : XS mL_faults 4 [(0, .ref 0)] [.long s0] I L Q := by
  refine x_lstore_n [(0, .ref 0), (1, .long s0)] dL_faults_4 rfl (Nat.le_of_ble_eq_true rfl) rfl ?_
  refine x_aload_n 0 dL_faults_5 rfl rfl ?_
  refine x_bipush (v := (11 : Int32)) dL_faults_6 (by decide) ?_
  exact xs_callV mX9_count [.int (11 : Int32)] [] 0 9 1 _ rfl dL_faults_8 ml_L_39 qX9_count rfl ⟨Nat.le_of_ble_eq_true rfl, Nat.le_of_ble_eq_true rfl⟩ ⟨rfl, rfl⟩ (Nat.le_of_ble_eq_true rfl) sh_0 (by decide) rfl (Nat.le_of_ble_eq_true rfl) (K)
theorem bL_faults_11 {I : Nat → Nat → Int32} {L : Nat → Int64} {Q : Option Value → (Nat → Nat → Int32) → (Nat → Int64) → Prop} {v1 : Int64} {s0 : Int32}  (K : XS mX9_erase 0 [(0, .ref 0)] [] I L (fun r I' L' => XS mL_faults 16 [(0, .ref 0), (1, .long v1), (3, .int s0)] (r.toList ++ []) I' L' Q)) : XS mL_faults 11 [(0, .ref 0), (1, .long v1)] [.int s0] I L Q := by
  refine x_istore_n [(0, .ref 0), (1, .long v1), (3, .int s0)] dL_faults_11 rfl (Nat.le_of_ble_eq_true rfl) rfl ?_
  refine x_aload_n 0 dL_faults_12 rfl rfl ?_
  exact xs_callV mX9_erase [] [] 0 9 0 _ rfl dL_faults_13 ml_L_19 qX9_erase rfl ⟨Nat.le_of_ble_eq_true rfl, Nat.le_of_ble_eq_true rfl⟩ ⟨rfl, rfl⟩ (Nat.le_of_ble_eq_true rfl) sh_0 (by decide) rfl (Nat.le_of_ble_eq_true rfl) (K)
theorem bL_faults_16 {I : Nat → Nat → Int32} {L : Nat → Int64} {Q : Option Value → (Nat → Nat → Int32) → (Nat → Int64) → Prop} {v1 : Int64} {v3 : Int32} {s0 : Int32}  (K : XS mX9_fault 0 [(0, .ref 0)] [] I L (fun r I' L' => XS mL_faults 21 [(0, .ref 0), (1, .long v1), (3, .int v3)] (r.toList ++ []) I' L' Q)) : XS mL_faults 16 [(0, .ref 0), (1, .long v1), (3, .int v3)] [.int s0] I L Q := by
  refine x_pop dL_faults_16 rfl ?_
  refine x_aload_n 0 dL_faults_17 rfl rfl ?_
  exact xs_callV mX9_fault [] [] 0 9 0 _ rfl dL_faults_18 ml_L_33 qX9_fault rfl ⟨Nat.le_of_ble_eq_true rfl, Nat.le_of_ble_eq_true rfl⟩ ⟨rfl, rfl⟩ (Nat.le_of_ble_eq_true rfl) sh_0 (by decide) rfl (Nat.le_of_ble_eq_true rfl) (K)
theorem bL_faults_21 {I : Nat → Nat → Int32} {L : Nat → Int64} {Q : Option Value → (Nat → Nat → Int32) → (Nat → Int64) → Prop} {v1 : Int64} {v3 : Int32} {s0 : Int32}  (K1 : (¬ s0 = 0) → XS mL_faults 37 [(0, .ref 0), (1, .long v1), (3, .int v3)] [] I L Q) (K2 : (s0 = 0) → XS mL_faults 24 [(0, .ref 0), (1, .long v1), (3, .int v3)] [] I L Q) : XS mL_faults 21 [(0, .ref 0), (1, .long v1), (3, .int v3)] [.int s0] I L Q := by
  exact x_if_ne 37 dL_faults_21 (by decide) (fun h => K1 h) (fun h => K2 h)
theorem bL_faults_24 {I : Nat → Nat → Int32} {L : Nat → Int64} {Q : Option Value → (Nat → Nat → Int32) → (Nat → Int64) → Prop} {v1 : Int64} {v3 : Int32}  (K : XS mX9_tell 0 [(0, .ref 0)] [] I L (fun r I' L' => XS mL_faults 28 [(0, .ref 0), (1, .long v1), (3, .int v3)] (r.toList ++ []) I' L' Q)) : XS mL_faults 24 [(0, .ref 0), (1, .long v1), (3, .int v3)] [] I L Q := by
  refine x_aload_n 0 dL_faults_24 rfl rfl ?_
  exact xs_callV mX9_tell [] [] 0 9 0 _ rfl dL_faults_25 ml_L_36 qX9_tell rfl ⟨Nat.le_of_ble_eq_true rfl, Nat.le_of_ble_eq_true rfl⟩ ⟨rfl, rfl⟩ (Nat.le_of_ble_eq_true rfl) sh_0 (by decide) rfl (Nat.le_of_ble_eq_true rfl) (K)
theorem bL_faults_28 {I : Nat → Nat → Int32} {L : Nat → Int64} {Q : Option Value → (Nat → Nat → Int32) → (Nat → Int64) → Prop} {v1 : Int64} {v3 : Int32} {s0 : Int32}  (K1 : (¬ s0 = (-4 : Int32)) → XS mL_faults 37 [(0, .ref 0), (1, .long v1), (3, .int v3)] [] I L Q) (K2 : (s0 = (-4 : Int32)) → XS mL_faults 33 [(0, .ref 0), (1, .long v1), (3, .int v3)] [] I L Q) : XS mL_faults 28 [(0, .ref 0), (1, .long v1), (3, .int v3)] [.int s0] I L Q := by
  refine x_bipush (v := (-4 : Int32)) dL_faults_28 (by decide) ?_
  exact x_icmp_ne 37 dL_faults_30 (by decide) (fun h => K1 h) (fun h => K2 h)
theorem bL_faults_33 {I : Nat → Nat → Int32} {L : Nat → Int64} {Q : Option Value → (Nat → Nat → Int32) → (Nat → Int64) → Prop} {v1 : Int64} {v3 : Int32}  (K : XS mL_faults 38 [(0, .ref 0), (1, .long v1), (3, .int v3)] [.int (1 : Int32)] I L Q) : XS mL_faults 33 [(0, .ref 0), (1, .long v1), (3, .int v3)] [] I L Q := by
  refine x_iconst (v := (1 : Int32)) dL_faults_33 (by decide) ?_
  exact x_goto 38 dL_faults_34 (by decide) (K)
theorem bL_faults_37 {I : Nat → Nat → Int32} {L : Nat → Int64} {Q : Option Value → (Nat → Nat → Int32) → (Nat → Int64) → Prop} {v1 : Int64} {v3 : Int32}  (K : XS mL_faults 38 [(0, .ref 0), (1, .long v1), (3, .int v3)] [.int (0 : Int32)] I L Q) : XS mL_faults 37 [(0, .ref 0), (1, .long v1), (3, .int v3)] [] I L Q := by
  refine x_iconst (v := (0 : Int32)) dL_faults_37 (by decide) ?_
  exact K
theorem bL_faults_38 {I : Nat → Nat → Int32} {L : Nat → Int64} {Q : Option Value → (Nat → Nat → Int32) → (Nat → Int64) → Prop} {v1 : Int64} {v3 : Int32} {s0 : Int32}  (K : XS mL_says 0 [(0, .ref 0), (1, .int (110 : Int32)), (2, .int (111 : Int32)), (3, .int (100 : Int32)), (4, .int (101 : Int32))] [] I L (fun r I' L' => XS mL_faults 52 [(0, .ref 0), (1, .long v1), (3, .int v3), (4, .int s0)] (r.toList ++ []) I' L' Q)) : XS mL_faults 38 [(0, .ref 0), (1, .long v1), (3, .int v3)] [.int s0] I L Q := by
  refine x_istore [(0, .ref 0), (1, .long v1), (3, .int v3), (4, .int s0)] dL_faults_38 (Nat.le_of_ble_eq_true rfl) rfl ?_
  refine x_aload_n 0 dL_faults_40 rfl rfl ?_
  refine x_bipush (v := (110 : Int32)) dL_faults_41 (by decide) ?_
  refine x_bipush (v := (111 : Int32)) dL_faults_43 (by decide) ?_
  refine x_bipush (v := (100 : Int32)) dL_faults_45 (by decide) ?_
  refine x_bipush (v := (101 : Int32)) dL_faults_47 (by decide) ?_
  exact xs_callS mL_says [.ref 0, .int (110 : Int32), .int (111 : Int32), .int (100 : Int32), .int (101 : Int32)] [] 5 _ rfl dL_faults_49 ml_L_25 qL_says rfl ⟨Nat.le_of_ble_eq_true rfl, Nat.le_of_ble_eq_true rfl⟩ ⟨rfl, rfl⟩ (Nat.le_of_ble_eq_true rfl) (Nat.le_of_ble_eq_true rfl) (K)
theorem bL_faults_52 {I : Nat → Nat → Int32} {L : Nat → Int64} {Q : Option Value → (Nat → Nat → Int32) → (Nat → Int64) → Prop} {v1 : Int64} {v3 : Int32} {v4 : Int32}  (K : XS mL_says 0 [(0, .ref 0), (1, .int (115 : Int32)), (2, .int (32 : Int32)), (3, .int (49 : Int32)), (4, .int (32 : Int32))] [] I L (fun r I' L' => XS mL_faults 64 [(0, .ref 0), (1, .long v1), (3, .int v3), (4, .int v4)] (r.toList ++ []) I' L' Q)) : XS mL_faults 52 [(0, .ref 0), (1, .long v1), (3, .int v3), (4, .int v4)] [] I L Q := by
  refine x_aload_n 0 dL_faults_52 rfl rfl ?_
  refine x_bipush (v := (115 : Int32)) dL_faults_53 (by decide) ?_
  refine x_bipush (v := (32 : Int32)) dL_faults_55 (by decide) ?_
  refine x_bipush (v := (49 : Int32)) dL_faults_57 (by decide) ?_
  refine x_bipush (v := (32 : Int32)) dL_faults_59 (by decide) ?_
  exact xs_callS mL_says [.ref 0, .int (115 : Int32), .int (32 : Int32), .int (49 : Int32), .int (32 : Int32)] [] 5 _ rfl dL_faults_61 ml_L_25 qL_says rfl ⟨Nat.le_of_ble_eq_true rfl, Nat.le_of_ble_eq_true rfl⟩ ⟨rfl, rfl⟩ (Nat.le_of_ble_eq_true rfl) (Nat.le_of_ble_eq_true rfl) (K)
theorem bL_faults_64 {I : Nat → Nat → Int32} {L : Nat → Int64} {Q : Option Value → (Nat → Nat → Int32) → (Nat → Int64) → Prop} {v1 : Int64} {v3 : Int32} {v4 : Int32}  (K1 : (v4 = 0) → XS mL_faults 91 [(0, .ref 0), (1, .long v1), (3, .int v3)] [] I L Q) (K2 : (¬ v4 = 0) → XS mL_faults 69 [(0, .ref 0), (1, .long v1), (3, .int v3)] [] I L Q) : XS mL_faults 64 [(0, .ref 0), (1, .long v1), (3, .int v3), (4, .int v4)] [] I L Q := by
  refine x_iload 3 dL_faults_64 rfl ?_
  exact x_if_eq 91 dL_faults_66 (by decide) (fun h => x_sub [0, 1, 2] rfl (K1 h)) (fun h => x_sub [0, 1, 2] rfl (K2 h))
theorem bL_faults_69 {I : Nat → Nat → Int32} {L : Nat → Int64} {Q : Option Value → (Nat → Nat → Int32) → (Nat → Int64) → Prop} {v1 : Int64} {v3 : Int32}  (K : XS mX9_fault 0 [(0, .ref 0)] [] I L (fun r I' L' => XS mL_faults 73 [(0, .ref 0), (1, .long v1), (3, .int v3)] (r.toList ++ []) I' L' Q)) : XS mL_faults 69 [(0, .ref 0), (1, .long v1), (3, .int v3)] [] I L Q := by
  refine x_aload_n 0 dL_faults_69 rfl rfl ?_
  exact xs_callV mX9_fault [] [] 0 9 0 _ rfl dL_faults_70 ml_L_33 qX9_fault rfl ⟨Nat.le_of_ble_eq_true rfl, Nat.le_of_ble_eq_true rfl⟩ ⟨rfl, rfl⟩ (Nat.le_of_ble_eq_true rfl) sh_0 (by decide) rfl (Nat.le_of_ble_eq_true rfl) (K)
theorem bL_faults_73 {I : Nat → Nat → Int32} {L : Nat → Int64} {Q : Option Value → (Nat → Nat → Int32) → (Nat → Int64) → Prop} {v1 : Int64} {v3 : Int32} {s0 : Int32}  (K1 : (¬ s0 = (6 : Int32)) → XS mL_faults 91 [(0, .ref 0), (1, .long v1), (3, .int v3)] [] I L Q) (K2 : (s0 = (6 : Int32)) → XS mL_faults 78 [(0, .ref 0), (1, .long v1), (3, .int v3)] [] I L Q) : XS mL_faults 73 [(0, .ref 0), (1, .long v1), (3, .int v3)] [.int s0] I L Q := by
  refine x_bipush (v := (6 : Int32)) dL_faults_73 (by decide) ?_
  exact x_icmp_ne 91 dL_faults_75 (by decide) (fun h => K1 h) (fun h => K2 h)
theorem bL_faults_78 {I : Nat → Nat → Int32} {L : Nat → Int64} {Q : Option Value → (Nat → Nat → Int32) → (Nat → Int64) → Prop} {v1 : Int64} {v3 : Int32}  (K : XS mX9_erase 0 [(0, .ref 0)] [] I L (fun r I' L' => XS mL_faults 82 [(0, .ref 0), (1, .long v1), (3, .int v3)] (r.toList ++ []) I' L' Q)) : XS mL_faults 78 [(0, .ref 0), (1, .long v1), (3, .int v3)] [] I L Q := by
  refine x_aload_n 0 dL_faults_78 rfl rfl ?_
  exact xs_callV mX9_erase [] [] 0 9 0 _ rfl dL_faults_79 ml_L_19 qX9_erase rfl ⟨Nat.le_of_ble_eq_true rfl, Nat.le_of_ble_eq_true rfl⟩ ⟨rfl, rfl⟩ (Nat.le_of_ble_eq_true rfl) sh_0 (by decide) rfl (Nat.le_of_ble_eq_true rfl) (K)
theorem bL_faults_82 {I : Nat → Nat → Int32} {L : Nat → Int64} {Q : Option Value → (Nat → Nat → Int32) → (Nat → Int64) → Prop} {v1 : Int64} {v3 : Int32} {s0 : Int32}  (K1 : (¬ s0 = (8 : Int32)) → XS mL_faults 91 [(0, .ref 0), (1, .long v1), (3, .int v3)] [] I L Q) (K2 : (s0 = (8 : Int32)) → XS mL_faults 87 [(0, .ref 0), (1, .long v1), (3, .int v3)] [] I L Q) : XS mL_faults 82 [(0, .ref 0), (1, .long v1), (3, .int v3)] [.int s0] I L Q := by
  refine x_bipush (v := (8 : Int32)) dL_faults_82 (by decide) ?_
  exact x_icmp_ne 91 dL_faults_84 (by decide) (fun h => K1 h) (fun h => K2 h)
theorem bL_faults_87 {I : Nat → Nat → Int32} {L : Nat → Int64} {Q : Option Value → (Nat → Nat → Int32) → (Nat → Int64) → Prop} {v1 : Int64} {v3 : Int32}  (K : XS mL_faults 92 [(0, .ref 0), (1, .long v1), (3, .int v3)] [.int (1 : Int32)] I L Q) : XS mL_faults 87 [(0, .ref 0), (1, .long v1), (3, .int v3)] [] I L Q := by
  refine x_iconst (v := (1 : Int32)) dL_faults_87 (by decide) ?_
  exact x_goto 92 dL_faults_88 (by decide) (K)
theorem bL_faults_91 {I : Nat → Nat → Int32} {L : Nat → Int64} {Q : Option Value → (Nat → Nat → Int32) → (Nat → Int64) → Prop} {v1 : Int64} {v3 : Int32}  (K : XS mL_faults 92 [(0, .ref 0), (1, .long v1), (3, .int v3)] [.int (0 : Int32)] I L Q) : XS mL_faults 91 [(0, .ref 0), (1, .long v1), (3, .int v3)] [] I L Q := by
  refine x_iconst (v := (0 : Int32)) dL_faults_91 (by decide) ?_
  exact K
theorem bL_faults_92 {I : Nat → Nat → Int32} {L : Nat → Int64} {Q : Option Value → (Nat → Nat → Int32) → (Nat → Int64) → Prop} {v1 : Int64} {v3 : Int32} {s0 : Int32}  (K : XS mL_says 0 [(0, .ref 0), (1, .int (110 : Int32)), (2, .int (111 : Int32)), (3, .int (100 : Int32)), (4, .int (101 : Int32))] [] I L (fun r I' L' => XS mL_faults 106 [(0, .ref 0), (1, .long v1), (3, .int v3), (4, .int s0)] (r.toList ++ []) I' L' Q)) : XS mL_faults 92 [(0, .ref 0), (1, .long v1), (3, .int v3)] [.int s0] I L Q := by
  refine x_istore [(0, .ref 0), (1, .long v1), (3, .int v3), (4, .int s0)] dL_faults_92 (Nat.le_of_ble_eq_true rfl) rfl ?_
  refine x_aload_n 0 dL_faults_94 rfl rfl ?_
  refine x_bipush (v := (110 : Int32)) dL_faults_95 (by decide) ?_
  refine x_bipush (v := (111 : Int32)) dL_faults_97 (by decide) ?_
  refine x_bipush (v := (100 : Int32)) dL_faults_99 (by decide) ?_
  refine x_bipush (v := (101 : Int32)) dL_faults_101 (by decide) ?_
  exact xs_callS mL_says [.ref 0, .int (110 : Int32), .int (111 : Int32), .int (100 : Int32), .int (101 : Int32)] [] 5 _ rfl dL_faults_103 ml_L_25 qL_says rfl ⟨Nat.le_of_ble_eq_true rfl, Nat.le_of_ble_eq_true rfl⟩ ⟨rfl, rfl⟩ (Nat.le_of_ble_eq_true rfl) (Nat.le_of_ble_eq_true rfl) (K)
theorem bL_faults_106 {I : Nat → Nat → Int32} {L : Nat → Int64} {Q : Option Value → (Nat → Nat → Int32) → (Nat → Int64) → Prop} {v1 : Int64} {v3 : Int32} {v4 : Int32}  (K : XS mL_says 0 [(0, .ref 0), (1, .int (115 : Int32)), (2, .int (48 : Int32)), (3, .int (56 : Int32)), (4, .int (32 : Int32))] [] I L (fun r I' L' => XS mL_faults 118 [(0, .ref 0), (1, .long v1), (3, .int v3), (4, .int v4)] (r.toList ++ []) I' L' Q)) : XS mL_faults 106 [(0, .ref 0), (1, .long v1), (3, .int v3), (4, .int v4)] [] I L Q := by
  refine x_aload_n 0 dL_faults_106 rfl rfl ?_
  refine x_bipush (v := (115 : Int32)) dL_faults_107 (by decide) ?_
  refine x_bipush (v := (48 : Int32)) dL_faults_109 (by decide) ?_
  refine x_bipush (v := (56 : Int32)) dL_faults_111 (by decide) ?_
  refine x_bipush (v := (32 : Int32)) dL_faults_113 (by decide) ?_
  exact xs_callS mL_says [.ref 0, .int (115 : Int32), .int (48 : Int32), .int (56 : Int32), .int (32 : Int32)] [] 5 _ rfl dL_faults_115 ml_L_25 qL_says rfl ⟨Nat.le_of_ble_eq_true rfl, Nat.le_of_ble_eq_true rfl⟩ ⟨rfl, rfl⟩ (Nat.le_of_ble_eq_true rfl) (Nat.le_of_ble_eq_true rfl) (K)
theorem bL_faults_118 {I : Nat → Nat → Int32} {L : Nat → Int64} {Q : Option Value → (Nat → Nat → Int32) → (Nat → Int64) → Prop} {v1 : Int64} {v3 : Int32} {v4 : Int32}  (K1 : (v4 = 0) → XS mL_faults 144 [(0, .ref 0), (1, .long v1), (3, .int v3)] [] I L Q) (K2 : (¬ v4 = 0) → XS mL_faults 123 [(0, .ref 0), (1, .long v1), (3, .int v3)] [] I L Q) : XS mL_faults 118 [(0, .ref 0), (1, .long v1), (3, .int v3), (4, .int v4)] [] I L Q := by
  refine x_iload 3 dL_faults_118 rfl ?_
  exact x_if_eq 144 dL_faults_120 (by decide) (fun h => x_sub [0, 1, 2] rfl (K1 h)) (fun h => x_sub [0, 1, 2] rfl (K2 h))
theorem bL_faults_123 {I : Nat → Nat → Int32} {L : Nat → Int64} {Q : Option Value → (Nat → Nat → Int32) → (Nat → Int64) → Prop} {v1 : Int64} {v3 : Int32}  (K : XS mX9_fault 0 [(0, .ref 0)] [] I L (fun r I' L' => XS mL_faults 127 [(0, .ref 0), (1, .long v1), (3, .int v3)] (r.toList ++ []) I' L' Q)) : XS mL_faults 123 [(0, .ref 0), (1, .long v1), (3, .int v3)] [] I L Q := by
  refine x_aload_n 0 dL_faults_123 rfl rfl ?_
  exact xs_callV mX9_fault [] [] 0 9 0 _ rfl dL_faults_124 ml_L_33 qX9_fault rfl ⟨Nat.le_of_ble_eq_true rfl, Nat.le_of_ble_eq_true rfl⟩ ⟨rfl, rfl⟩ (Nat.le_of_ble_eq_true rfl) sh_0 (by decide) rfl (Nat.le_of_ble_eq_true rfl) (K)
theorem bL_faults_127 {I : Nat → Nat → Int32} {L : Nat → Int64} {Q : Option Value → (Nat → Nat → Int32) → (Nat → Int64) → Prop} {v1 : Int64} {v3 : Int32} {s0 : Int32}  (K1 : (¬ s0 = (5 : Int32)) → XS mL_faults 144 [(0, .ref 0), (1, .long v1), (3, .int v3)] [] I L Q) (K2 : (s0 = (5 : Int32)) → XS mL_faults 131 [(0, .ref 0), (1, .long v1), (3, .int v3)] [] I L Q) : XS mL_faults 127 [(0, .ref 0), (1, .long v1), (3, .int v3)] [.int s0] I L Q := by
  refine x_iconst (v := (5 : Int32)) dL_faults_127 (by decide) ?_
  exact x_icmp_ne 144 dL_faults_128 (by decide) (fun h => K1 h) (fun h => K2 h)
theorem bL_faults_131 {I : Nat → Nat → Int32} {L : Nat → Int64} {Q : Option Value → (Nat → Nat → Int32) → (Nat → Int64) → Prop} {v1 : Int64} {v3 : Int32}  (K : XS mX9_erase 0 [(0, .ref 0)] [] I L (fun r I' L' => XS mL_faults 135 [(0, .ref 0), (1, .long v1), (3, .int v3)] (r.toList ++ []) I' L' Q)) : XS mL_faults 131 [(0, .ref 0), (1, .long v1), (3, .int v3)] [] I L Q := by
  refine x_aload_n 0 dL_faults_131 rfl rfl ?_
  exact xs_callV mX9_erase [] [] 0 9 0 _ rfl dL_faults_132 ml_L_19 qX9_erase rfl ⟨Nat.le_of_ble_eq_true rfl, Nat.le_of_ble_eq_true rfl⟩ ⟨rfl, rfl⟩ (Nat.le_of_ble_eq_true rfl) sh_0 (by decide) rfl (Nat.le_of_ble_eq_true rfl) (K)
theorem bL_faults_135 {I : Nat → Nat → Int32} {L : Nat → Int64} {Q : Option Value → (Nat → Nat → Int32) → (Nat → Int64) → Prop} {v1 : Int64} {v3 : Int32} {s0 : Int32}  (K1 : (¬ s0 = (8 : Int32)) → XS mL_faults 144 [(0, .ref 0), (1, .long v1), (3, .int v3)] [] I L Q) (K2 : (s0 = (8 : Int32)) → XS mL_faults 140 [(0, .ref 0), (1, .long v1), (3, .int v3)] [] I L Q) : XS mL_faults 135 [(0, .ref 0), (1, .long v1), (3, .int v3)] [.int s0] I L Q := by
  refine x_bipush (v := (8 : Int32)) dL_faults_135 (by decide) ?_
  exact x_icmp_ne 144 dL_faults_137 (by decide) (fun h => K1 h) (fun h => K2 h)
theorem bL_faults_140 {I : Nat → Nat → Int32} {L : Nat → Int64} {Q : Option Value → (Nat → Nat → Int32) → (Nat → Int64) → Prop} {v1 : Int64} {v3 : Int32}  (K : XS mL_faults 145 [(0, .ref 0), (1, .long v1), (3, .int v3)] [.int (1 : Int32)] I L Q) : XS mL_faults 140 [(0, .ref 0), (1, .long v1), (3, .int v3)] [] I L Q := by
  refine x_iconst (v := (1 : Int32)) dL_faults_140 (by decide) ?_
  exact x_goto 145 dL_faults_141 (by decide) (K)
theorem bL_faults_144 {I : Nat → Nat → Int32} {L : Nat → Int64} {Q : Option Value → (Nat → Nat → Int32) → (Nat → Int64) → Prop} {v1 : Int64} {v3 : Int32}  (K : XS mL_faults 145 [(0, .ref 0), (1, .long v1), (3, .int v3)] [.int (0 : Int32)] I L Q) : XS mL_faults 144 [(0, .ref 0), (1, .long v1), (3, .int v3)] [] I L Q := by
  refine x_iconst (v := (0 : Int32)) dL_faults_144 (by decide) ?_
  exact K
theorem bL_faults_145 {I : Nat → Nat → Int32} {L : Nat → Int64} {Q : Option Value → (Nat → Nat → Int32) → (Nat → Int64) → Prop} {v1 : Int64} {v3 : Int32} {s0 : Int32}  (K : XS mL_says 0 [(0, .ref 0), (1, .int (110 : Int32)), (2, .int (111 : Int32)), (3, .int (100 : Int32)), (4, .int (101 : Int32))] [] I L (fun r I' L' => XS mL_faults 159 [(0, .ref 0), (1, .long v1), (3, .int v3), (4, .int s0)] (r.toList ++ []) I' L' Q)) : XS mL_faults 145 [(0, .ref 0), (1, .long v1), (3, .int v3)] [.int s0] I L Q := by
  refine x_istore [(0, .ref 0), (1, .long v1), (3, .int v3), (4, .int s0)] dL_faults_145 (Nat.le_of_ble_eq_true rfl) rfl ?_
  refine x_aload_n 0 dL_faults_147 rfl rfl ?_
  refine x_bipush (v := (110 : Int32)) dL_faults_148 (by decide) ?_
  refine x_bipush (v := (111 : Int32)) dL_faults_150 (by decide) ?_
  refine x_bipush (v := (100 : Int32)) dL_faults_152 (by decide) ?_
  refine x_bipush (v := (101 : Int32)) dL_faults_154 (by decide) ?_
  exact xs_callS mL_says [.ref 0, .int (110 : Int32), .int (111 : Int32), .int (100 : Int32), .int (101 : Int32)] [] 5 _ rfl dL_faults_156 ml_L_25 qL_says rfl ⟨Nat.le_of_ble_eq_true rfl, Nat.le_of_ble_eq_true rfl⟩ ⟨rfl, rfl⟩ (Nat.le_of_ble_eq_true rfl) (Nat.le_of_ble_eq_true rfl) (K)
theorem bL_faults_159 {I : Nat → Nat → Int32} {L : Nat → Int64} {Q : Option Value → (Nat → Nat → Int32) → (Nat → Int64) → Prop} {v1 : Int64} {v3 : Int32} {v4 : Int32}  (K : XS mL_says 0 [(0, .ref 0), (1, .int (115 : Int32)), (2, .int (51 : Int32)), (3, .int (59 : Int32)), (4, .int (32 : Int32))] [] I L (fun r I' L' => XS mL_faults 171 [(0, .ref 0), (1, .long v1), (3, .int v3), (4, .int v4)] (r.toList ++ []) I' L' Q)) : XS mL_faults 159 [(0, .ref 0), (1, .long v1), (3, .int v3), (4, .int v4)] [] I L Q := by
  refine x_aload_n 0 dL_faults_159 rfl rfl ?_
  refine x_bipush (v := (115 : Int32)) dL_faults_160 (by decide) ?_
  refine x_bipush (v := (51 : Int32)) dL_faults_162 (by decide) ?_
  refine x_bipush (v := (59 : Int32)) dL_faults_164 (by decide) ?_
  refine x_bipush (v := (32 : Int32)) dL_faults_166 (by decide) ?_
  exact xs_callS mL_says [.ref 0, .int (115 : Int32), .int (51 : Int32), .int (59 : Int32), .int (32 : Int32)] [] 5 _ rfl dL_faults_168 ml_L_25 qL_says rfl ⟨Nat.le_of_ble_eq_true rfl, Nat.le_of_ble_eq_true rfl⟩ ⟨rfl, rfl⟩ (Nat.le_of_ble_eq_true rfl) (Nat.le_of_ble_eq_true rfl) (K)
theorem bL_faults_171 {I : Nat → Nat → Int32} {L : Nat → Int64} {Q : Option Value → (Nat → Nat → Int32) → (Nat → Int64) → Prop} {v1 : Int64} {v3 : Int32} {v4 : Int32}  (K : XS mL_says 0 [(0, .ref 0), (1, .int (108 : Int32)), (2, .int (105 : Int32)), (3, .int (110 : Int32)), (4, .int (107 : Int32))] [] I L (fun r I' L' => XS mL_faults 183 [(0, .ref 0), (1, .long v1), (3, .int v3), (4, .int v4)] (r.toList ++ []) I' L' Q)) : XS mL_faults 171 [(0, .ref 0), (1, .long v1), (3, .int v3), (4, .int v4)] [] I L Q := by
  refine x_aload_n 0 dL_faults_171 rfl rfl ?_
  refine x_bipush (v := (108 : Int32)) dL_faults_172 (by decide) ?_
  refine x_bipush (v := (105 : Int32)) dL_faults_174 (by decide) ?_
  refine x_bipush (v := (110 : Int32)) dL_faults_176 (by decide) ?_
  refine x_bipush (v := (107 : Int32)) dL_faults_178 (by decide) ?_
  exact xs_callS mL_says [.ref 0, .int (108 : Int32), .int (105 : Int32), .int (110 : Int32), .int (107 : Int32)] [] 5 _ rfl dL_faults_180 ml_L_25 qL_says rfl ⟨Nat.le_of_ble_eq_true rfl, Nat.le_of_ble_eq_true rfl⟩ ⟨rfl, rfl⟩ (Nat.le_of_ble_eq_true rfl) (Nat.le_of_ble_eq_true rfl) (K)
theorem bL_faults_183 {I : Nat → Nat → Int32} {L : Nat → Int64} {Q : Option Value → (Nat → Nat → Int32) → (Nat → Int64) → Prop} {v1 : Int64} {v3 : Int32} {v4 : Int32}  (K : XS mL_says 0 [(0, .ref 0), (1, .int (48 : Int32)), (2, .int (32 : Int32)), (3, .int (48 : Int32)), (4, .int (32 : Int32))] [] I L (fun r I' L' => XS mL_faults 195 [(0, .ref 0), (1, .long v1), (3, .int v3), (4, .int v4)] (r.toList ++ []) I' L' Q)) : XS mL_faults 183 [(0, .ref 0), (1, .long v1), (3, .int v3), (4, .int v4)] [] I L Q := by
  refine x_aload_n 0 dL_faults_183 rfl rfl ?_
  refine x_bipush (v := (48 : Int32)) dL_faults_184 (by decide) ?_
  refine x_bipush (v := (32 : Int32)) dL_faults_186 (by decide) ?_
  refine x_bipush (v := (48 : Int32)) dL_faults_188 (by decide) ?_
  refine x_bipush (v := (32 : Int32)) dL_faults_190 (by decide) ?_
  exact xs_callS mL_says [.ref 0, .int (48 : Int32), .int (32 : Int32), .int (48 : Int32), .int (32 : Int32)] [] 5 _ rfl dL_faults_192 ml_L_25 qL_says rfl ⟨Nat.le_of_ble_eq_true rfl, Nat.le_of_ble_eq_true rfl⟩ ⟨rfl, rfl⟩ (Nat.le_of_ble_eq_true rfl) (Nat.le_of_ble_eq_true rfl) (K)
theorem bL_faults_195 {I : Nat → Nat → Int32} {L : Nat → Int64} {Q : Option Value → (Nat → Nat → Int32) → (Nat → Int64) → Prop} {v1 : Int64} {v3 : Int32} {v4 : Int32}  (K1 : (v4 = 0) → XS mL_faults 213 [(0, .ref 0), (1, .long v1), (3, .int v3)] [] I L Q) (K2 : (¬ v4 = 0) → XS mL_faults 200 [(0, .ref 0), (1, .long v1), (3, .int v3)] [] I L Q) : XS mL_faults 195 [(0, .ref 0), (1, .long v1), (3, .int v3), (4, .int v4)] [] I L Q := by
  refine x_iload 3 dL_faults_195 rfl ?_
  exact x_if_eq 213 dL_faults_197 (by decide) (fun h => x_sub [0, 1, 2] rfl (K1 h)) (fun h => x_sub [0, 1, 2] rfl (K2 h))
theorem bL_faults_200 {I : Nat → Nat → Int32} {L : Nat → Int64} {Q : Option Value → (Nat → Nat → Int32) → (Nat → Int64) → Prop} {v1 : Int64} {v3 : Int32}  (K : XS mX9_fault 0 [(0, .ref 0)] [] I L (fun r I' L' => XS mL_faults 204 [(0, .ref 0), (1, .long v1), (3, .int v3)] (r.toList ++ []) I' L' Q)) : XS mL_faults 200 [(0, .ref 0), (1, .long v1), (3, .int v3)] [] I L Q := by
  refine x_aload_n 0 dL_faults_200 rfl rfl ?_
  exact xs_callV mX9_fault [] [] 0 9 0 _ rfl dL_faults_201 ml_L_33 qX9_fault rfl ⟨Nat.le_of_ble_eq_true rfl, Nat.le_of_ble_eq_true rfl⟩ ⟨rfl, rfl⟩ (Nat.le_of_ble_eq_true rfl) sh_0 (by decide) rfl (Nat.le_of_ble_eq_true rfl) (K)
theorem bL_faults_204 {I : Nat → Nat → Int32} {L : Nat → Int64} {Q : Option Value → (Nat → Nat → Int32) → (Nat → Int64) → Prop} {v1 : Int64} {v3 : Int32} {s0 : Int32}  (K1 : (¬ s0 = (14 : Int32)) → XS mL_faults 213 [(0, .ref 0), (1, .long v1), (3, .int v3)] [] I L Q) (K2 : (s0 = (14 : Int32)) → XS mL_faults 209 [(0, .ref 0), (1, .long v1), (3, .int v3)] [] I L Q) : XS mL_faults 204 [(0, .ref 0), (1, .long v1), (3, .int v3)] [.int s0] I L Q := by
  refine x_bipush (v := (14 : Int32)) dL_faults_204 (by decide) ?_
  exact x_icmp_ne 213 dL_faults_206 (by decide) (fun h => K1 h) (fun h => K2 h)
theorem bL_faults_209 {I : Nat → Nat → Int32} {L : Nat → Int64} {Q : Option Value → (Nat → Nat → Int32) → (Nat → Int64) → Prop} {v1 : Int64} {v3 : Int32}  (K : XS mL_faults 214 [(0, .ref 0), (1, .long v1), (3, .int v3)] [.int (1 : Int32)] I L Q) : XS mL_faults 209 [(0, .ref 0), (1, .long v1), (3, .int v3)] [] I L Q := by
  refine x_iconst (v := (1 : Int32)) dL_faults_209 (by decide) ?_
  exact x_goto 214 dL_faults_210 (by decide) (K)
theorem bL_faults_213 {I : Nat → Nat → Int32} {L : Nat → Int64} {Q : Option Value → (Nat → Nat → Int32) → (Nat → Int64) → Prop} {v1 : Int64} {v3 : Int32}  (K : XS mL_faults 214 [(0, .ref 0), (1, .long v1), (3, .int v3)] [.int (0 : Int32)] I L Q) : XS mL_faults 213 [(0, .ref 0), (1, .long v1), (3, .int v3)] [] I L Q := by
  refine x_iconst (v := (0 : Int32)) dL_faults_213 (by decide) ?_
  exact K
theorem bL_faults_214 {I : Nat → Nat → Int32} {L : Nat → Int64} {Q : Option Value → (Nat → Nat → Int32) → (Nat → Int64) → Prop} {v1 : Int64} {v3 : Int32} {s0 : Int32}  (K : XS mX9_erase 0 [(0, .ref 0)] [] I L (fun r I' L' => XS mL_faults 220 [(0, .ref 0), (1, .long v1), (3, .int v3), (4, .int s0)] (r.toList ++ []) I' L' Q)) : XS mL_faults 214 [(0, .ref 0), (1, .long v1), (3, .int v3)] [.int s0] I L Q := by
  refine x_istore [(0, .ref 0), (1, .long v1), (3, .int v3), (4, .int s0)] dL_faults_214 (Nat.le_of_ble_eq_true rfl) rfl ?_
  refine x_aload_n 0 dL_faults_216 rfl rfl ?_
  exact xs_callV mX9_erase [] [] 0 9 0 _ rfl dL_faults_217 ml_L_19 qX9_erase rfl ⟨Nat.le_of_ble_eq_true rfl, Nat.le_of_ble_eq_true rfl⟩ ⟨rfl, rfl⟩ (Nat.le_of_ble_eq_true rfl) sh_0 (by decide) rfl (Nat.le_of_ble_eq_true rfl) (K)
theorem bL_faults_220 {I : Nat → Nat → Int32} {L : Nat → Int64} {Q : Option Value → (Nat → Nat → Int32) → (Nat → Int64) → Prop} {v1 : Int64} {v3 : Int32} {v4 : Int32} {s0 : Int32}  (K : XS mL_says 0 [(0, .ref 0), (1, .int (110 : Int32)), (2, .int (111 : Int32)), (3, .int (100 : Int32)), (4, .int (101 : Int32))] [] I L (fun r I' L' => XS mL_faults 233 [(0, .ref 0), (1, .long v1), (3, .int v3), (4, .int v4)] (r.toList ++ []) I' L' Q)) : XS mL_faults 220 [(0, .ref 0), (1, .long v1), (3, .int v3), (4, .int v4)] [.int s0] I L Q := by
  refine x_pop dL_faults_220 rfl ?_
  refine x_aload_n 0 dL_faults_221 rfl rfl ?_
  refine x_bipush (v := (110 : Int32)) dL_faults_222 (by decide) ?_
  refine x_bipush (v := (111 : Int32)) dL_faults_224 (by decide) ?_
  refine x_bipush (v := (100 : Int32)) dL_faults_226 (by decide) ?_
  refine x_bipush (v := (101 : Int32)) dL_faults_228 (by decide) ?_
  exact xs_callS mL_says [.ref 0, .int (110 : Int32), .int (111 : Int32), .int (100 : Int32), .int (101 : Int32)] [] 5 _ rfl dL_faults_230 ml_L_25 qL_says rfl ⟨Nat.le_of_ble_eq_true rfl, Nat.le_of_ble_eq_true rfl⟩ ⟨rfl, rfl⟩ (Nat.le_of_ble_eq_true rfl) (Nat.le_of_ble_eq_true rfl) (K)
theorem bL_faults_233 {I : Nat → Nat → Int32} {L : Nat → Int64} {Q : Option Value → (Nat → Nat → Int32) → (Nat → Int64) → Prop} {v1 : Int64} {v3 : Int32} {v4 : Int32}  (K : XS mL_says 0 [(0, .ref 0), (1, .int (115 : Int32)), (2, .int (51 : Int32)), (3, .int (59 : Int32)), (4, .int (32 : Int32))] [] I L (fun r I' L' => XS mL_faults 245 [(0, .ref 0), (1, .long v1), (3, .int v3), (4, .int v4)] (r.toList ++ []) I' L' Q)) : XS mL_faults 233 [(0, .ref 0), (1, .long v1), (3, .int v3), (4, .int v4)] [] I L Q := by
  refine x_aload_n 0 dL_faults_233 rfl rfl ?_
  refine x_bipush (v := (115 : Int32)) dL_faults_234 (by decide) ?_
  refine x_bipush (v := (51 : Int32)) dL_faults_236 (by decide) ?_
  refine x_bipush (v := (59 : Int32)) dL_faults_238 (by decide) ?_
  refine x_bipush (v := (32 : Int32)) dL_faults_240 (by decide) ?_
  exact xs_callS mL_says [.ref 0, .int (115 : Int32), .int (51 : Int32), .int (59 : Int32), .int (32 : Int32)] [] 5 _ rfl dL_faults_242 ml_L_25 qL_says rfl ⟨Nat.le_of_ble_eq_true rfl, Nat.le_of_ble_eq_true rfl⟩ ⟨rfl, rfl⟩ (Nat.le_of_ble_eq_true rfl) (Nat.le_of_ble_eq_true rfl) (K)
theorem bL_faults_245 {I : Nat → Nat → Int32} {L : Nat → Int64} {Q : Option Value → (Nat → Nat → Int32) → (Nat → Int64) → Prop} {v1 : Int64} {v3 : Int32} {v4 : Int32}  (K : XS mL_says 0 [(0, .ref 0), (1, .int (108 : Int32)), (2, .int (105 : Int32)), (3, .int (110 : Int32)), (4, .int (107 : Int32))] [] I L (fun r I' L' => XS mL_faults 257 [(0, .ref 0), (1, .long v1), (3, .int v3), (4, .int v4)] (r.toList ++ []) I' L' Q)) : XS mL_faults 245 [(0, .ref 0), (1, .long v1), (3, .int v3), (4, .int v4)] [] I L Q := by
  refine x_aload_n 0 dL_faults_245 rfl rfl ?_
  refine x_bipush (v := (108 : Int32)) dL_faults_246 (by decide) ?_
  refine x_bipush (v := (105 : Int32)) dL_faults_248 (by decide) ?_
  refine x_bipush (v := (110 : Int32)) dL_faults_250 (by decide) ?_
  refine x_bipush (v := (107 : Int32)) dL_faults_252 (by decide) ?_
  exact xs_callS mL_says [.ref 0, .int (108 : Int32), .int (105 : Int32), .int (110 : Int32), .int (107 : Int32)] [] 5 _ rfl dL_faults_254 ml_L_25 qL_says rfl ⟨Nat.le_of_ble_eq_true rfl, Nat.le_of_ble_eq_true rfl⟩ ⟨rfl, rfl⟩ (Nat.le_of_ble_eq_true rfl) (Nat.le_of_ble_eq_true rfl) (K)
theorem bL_faults_257 {I : Nat → Nat → Int32} {L : Nat → Int64} {Q : Option Value → (Nat → Nat → Int32) → (Nat → Int64) → Prop} {v1 : Int64} {v3 : Int32} {v4 : Int32}  (K : XS mL_says 0 [(0, .ref 0), (1, .int (51 : Int32)), (2, .int (32 : Int32)), (3, .int (48 : Int32)), (4, .int (32 : Int32))] [] I L (fun r I' L' => XS mL_faults 269 [(0, .ref 0), (1, .long v1), (3, .int v3), (4, .int v4)] (r.toList ++ []) I' L' Q)) : XS mL_faults 257 [(0, .ref 0), (1, .long v1), (3, .int v3), (4, .int v4)] [] I L Q := by
  refine x_aload_n 0 dL_faults_257 rfl rfl ?_
  refine x_bipush (v := (51 : Int32)) dL_faults_258 (by decide) ?_
  refine x_bipush (v := (32 : Int32)) dL_faults_260 (by decide) ?_
  refine x_bipush (v := (48 : Int32)) dL_faults_262 (by decide) ?_
  refine x_bipush (v := (32 : Int32)) dL_faults_264 (by decide) ?_
  exact xs_callS mL_says [.ref 0, .int (51 : Int32), .int (32 : Int32), .int (48 : Int32), .int (32 : Int32)] [] 5 _ rfl dL_faults_266 ml_L_25 qL_says rfl ⟨Nat.le_of_ble_eq_true rfl, Nat.le_of_ble_eq_true rfl⟩ ⟨rfl, rfl⟩ (Nat.le_of_ble_eq_true rfl) (Nat.le_of_ble_eq_true rfl) (K)
theorem bL_faults_269 {I : Nat → Nat → Int32} {L : Nat → Int64} {Q : Option Value → (Nat → Nat → Int32) → (Nat → Int64) → Prop} {v1 : Int64} {v3 : Int32} {v4 : Int32}  (K1 : (v4 = 0) → XS mL_faults 296 [(0, .ref 0), (1, .long v1), (3, .int v3)] [] I L Q) (K2 : (¬ v4 = 0) → XS mL_faults 274 [(0, .ref 0), (1, .long v1), (3, .int v3)] [] I L Q) : XS mL_faults 269 [(0, .ref 0), (1, .long v1), (3, .int v3), (4, .int v4)] [] I L Q := by
  refine x_iload 3 dL_faults_269 rfl ?_
  exact x_if_eq 296 dL_faults_271 (by decide) (fun h => x_sub [0, 1, 2] rfl (K1 h)) (fun h => x_sub [0, 1, 2] rfl (K2 h))
theorem bL_faults_274 {I : Nat → Nat → Int32} {L : Nat → Int64} {Q : Option Value → (Nat → Nat → Int32) → (Nat → Int64) → Prop} {v1 : Int64} {v3 : Int32}  (K : XS mX9_fault 0 [(0, .ref 0)] [] I L (fun r I' L' => XS mL_faults 278 [(0, .ref 0), (1, .long v1), (3, .int v3)] (r.toList ++ []) I' L' Q)) : XS mL_faults 274 [(0, .ref 0), (1, .long v1), (3, .int v3)] [] I L Q := by
  refine x_aload_n 0 dL_faults_274 rfl rfl ?_
  exact xs_callV mX9_fault [] [] 0 9 0 _ rfl dL_faults_275 ml_L_33 qX9_fault rfl ⟨Nat.le_of_ble_eq_true rfl, Nat.le_of_ble_eq_true rfl⟩ ⟨rfl, rfl⟩ (Nat.le_of_ble_eq_true rfl) sh_0 (by decide) rfl (Nat.le_of_ble_eq_true rfl) (K)
theorem bL_faults_278 {I : Nat → Nat → Int32} {L : Nat → Int64} {Q : Option Value → (Nat → Nat → Int32) → (Nat → Int64) → Prop} {v1 : Int64} {v3 : Int32} {s0 : Int32}  (K1 : (¬ s0 = (12 : Int32)) → XS mL_faults 296 [(0, .ref 0), (1, .long v1), (3, .int v3)] [] I L Q) (K2 : (s0 = (12 : Int32)) → XS mL_faults 283 [(0, .ref 0), (1, .long v1), (3, .int v3)] [] I L Q) : XS mL_faults 278 [(0, .ref 0), (1, .long v1), (3, .int v3)] [.int s0] I L Q := by
  refine x_bipush (v := (12 : Int32)) dL_faults_278 (by decide) ?_
  exact x_icmp_ne 296 dL_faults_280 (by decide) (fun h => K1 h) (fun h => K2 h)
theorem bL_faults_283 {I : Nat → Nat → Int32} {L : Nat → Int64} {Q : Option Value → (Nat → Nat → Int32) → (Nat → Int64) → Prop} {v1 : Int64} {v3 : Int32}  (K : XS mX9_erase 0 [(0, .ref 0)] [] I L (fun r I' L' => XS mL_faults 287 [(0, .ref 0), (1, .long v1), (3, .int v3)] (r.toList ++ []) I' L' Q)) : XS mL_faults 283 [(0, .ref 0), (1, .long v1), (3, .int v3)] [] I L Q := by
  refine x_aload_n 0 dL_faults_283 rfl rfl ?_
  exact xs_callV mX9_erase [] [] 0 9 0 _ rfl dL_faults_284 ml_L_19 qX9_erase rfl ⟨Nat.le_of_ble_eq_true rfl, Nat.le_of_ble_eq_true rfl⟩ ⟨rfl, rfl⟩ (Nat.le_of_ble_eq_true rfl) sh_0 (by decide) rfl (Nat.le_of_ble_eq_true rfl) (K)
theorem bL_faults_287 {I : Nat → Nat → Int32} {L : Nat → Int64} {Q : Option Value → (Nat → Nat → Int32) → (Nat → Int64) → Prop} {v1 : Int64} {v3 : Int32} {s0 : Int32}  (K1 : (¬ s0 = (16 : Int32)) → XS mL_faults 296 [(0, .ref 0), (1, .long v1), (3, .int v3)] [] I L Q) (K2 : (s0 = (16 : Int32)) → XS mL_faults 292 [(0, .ref 0), (1, .long v1), (3, .int v3)] [] I L Q) : XS mL_faults 287 [(0, .ref 0), (1, .long v1), (3, .int v3)] [.int s0] I L Q := by
  refine x_bipush (v := (16 : Int32)) dL_faults_287 (by decide) ?_
  exact x_icmp_ne 296 dL_faults_289 (by decide) (fun h => K1 h) (fun h => K2 h)
theorem bL_faults_292 {I : Nat → Nat → Int32} {L : Nat → Int64} {Q : Option Value → (Nat → Nat → Int32) → (Nat → Int64) → Prop} {v1 : Int64} {v3 : Int32}  (K : XS mL_faults 297 [(0, .ref 0), (1, .long v1), (3, .int v3)] [.int (1 : Int32)] I L Q) : XS mL_faults 292 [(0, .ref 0), (1, .long v1), (3, .int v3)] [] I L Q := by
  refine x_iconst (v := (1 : Int32)) dL_faults_292 (by decide) ?_
  exact x_goto 297 dL_faults_293 (by decide) (K)
theorem bL_faults_296 {I : Nat → Nat → Int32} {L : Nat → Int64} {Q : Option Value → (Nat → Nat → Int32) → (Nat → Int64) → Prop} {v1 : Int64} {v3 : Int32}  (K : XS mL_faults 297 [(0, .ref 0), (1, .long v1), (3, .int v3)] [.int (0 : Int32)] I L Q) : XS mL_faults 296 [(0, .ref 0), (1, .long v1), (3, .int v3)] [] I L Q := by
  refine x_iconst (v := (0 : Int32)) dL_faults_296 (by decide) ?_
  exact K
theorem bL_faults_297 {I : Nat → Nat → Int32} {L : Nat → Int64} {Q : Option Value → (Nat → Nat → Int32) → (Nat → Int64) → Prop} {v1 : Int64} {v3 : Int32} {s0 : Int32}  (K : XS mL_says 0 [(0, .ref 0), (1, .int (110 : Int32)), (2, .int (111 : Int32)), (3, .int (100 : Int32)), (4, .int (101 : Int32))] [] I L (fun r I' L' => XS mL_faults 311 [(0, .ref 0), (1, .long v1), (3, .int v3), (4, .int s0)] (r.toList ++ []) I' L' Q)) : XS mL_faults 297 [(0, .ref 0), (1, .long v1), (3, .int v3)] [.int s0] I L Q := by
  refine x_istore [(0, .ref 0), (1, .long v1), (3, .int v3), (4, .int s0)] dL_faults_297 (Nat.le_of_ble_eq_true rfl) rfl ?_
  refine x_aload_n 0 dL_faults_299 rfl rfl ?_
  refine x_bipush (v := (110 : Int32)) dL_faults_300 (by decide) ?_
  refine x_bipush (v := (111 : Int32)) dL_faults_302 (by decide) ?_
  refine x_bipush (v := (100 : Int32)) dL_faults_304 (by decide) ?_
  refine x_bipush (v := (101 : Int32)) dL_faults_306 (by decide) ?_
  exact xs_callS mL_says [.ref 0, .int (110 : Int32), .int (111 : Int32), .int (100 : Int32), .int (101 : Int32)] [] 5 _ rfl dL_faults_308 ml_L_25 qL_says rfl ⟨Nat.le_of_ble_eq_true rfl, Nat.le_of_ble_eq_true rfl⟩ ⟨rfl, rfl⟩ (Nat.le_of_ble_eq_true rfl) (Nat.le_of_ble_eq_true rfl) (K)
theorem bL_faults_311 {I : Nat → Nat → Int32} {L : Nat → Int64} {Q : Option Value → (Nat → Nat → Int32) → (Nat → Int64) → Prop} {v1 : Int64} {v3 : Int32} {v4 : Int32}  (K : XS mL_says 0 [(0, .ref 0), (1, .int (115 : Int32)), (2, .int (51 : Int32)), (3, .int (59 : Int32)), (4, .int (32 : Int32))] [] I L (fun r I' L' => XS mL_faults 323 [(0, .ref 0), (1, .long v1), (3, .int v3), (4, .int v4)] (r.toList ++ []) I' L' Q)) : XS mL_faults 311 [(0, .ref 0), (1, .long v1), (3, .int v3), (4, .int v4)] [] I L Q := by
  refine x_aload_n 0 dL_faults_311 rfl rfl ?_
  refine x_bipush (v := (115 : Int32)) dL_faults_312 (by decide) ?_
  refine x_bipush (v := (51 : Int32)) dL_faults_314 (by decide) ?_
  refine x_bipush (v := (59 : Int32)) dL_faults_316 (by decide) ?_
  refine x_bipush (v := (32 : Int32)) dL_faults_318 (by decide) ?_
  exact xs_callS mL_says [.ref 0, .int (115 : Int32), .int (51 : Int32), .int (59 : Int32), .int (32 : Int32)] [] 5 _ rfl dL_faults_320 ml_L_25 qL_says rfl ⟨Nat.le_of_ble_eq_true rfl, Nat.le_of_ble_eq_true rfl⟩ ⟨rfl, rfl⟩ (Nat.le_of_ble_eq_true rfl) (Nat.le_of_ble_eq_true rfl) (K)
theorem bL_faults_323 {I : Nat → Nat → Int32} {L : Nat → Int64} {Q : Option Value → (Nat → Nat → Int32) → (Nat → Int64) → Prop} {v1 : Int64} {v3 : Int32} {v4 : Int32}  (K : XS mL_says 0 [(0, .ref 0), (1, .int (108 : Int32)), (2, .int (105 : Int32)), (3, .int (110 : Int32)), (4, .int (107 : Int32))] [] I L (fun r I' L' => XS mL_faults 335 [(0, .ref 0), (1, .long v1), (3, .int v3), (4, .int v4)] (r.toList ++ []) I' L' Q)) : XS mL_faults 323 [(0, .ref 0), (1, .long v1), (3, .int v3), (4, .int v4)] [] I L Q := by
  refine x_aload_n 0 dL_faults_323 rfl rfl ?_
  refine x_bipush (v := (108 : Int32)) dL_faults_324 (by decide) ?_
  refine x_bipush (v := (105 : Int32)) dL_faults_326 (by decide) ?_
  refine x_bipush (v := (110 : Int32)) dL_faults_328 (by decide) ?_
  refine x_bipush (v := (107 : Int32)) dL_faults_330 (by decide) ?_
  exact xs_callS mL_says [.ref 0, .int (108 : Int32), .int (105 : Int32), .int (110 : Int32), .int (107 : Int32)] [] 5 _ rfl dL_faults_332 ml_L_25 qL_says rfl ⟨Nat.le_of_ble_eq_true rfl, Nat.le_of_ble_eq_true rfl⟩ ⟨rfl, rfl⟩ (Nat.le_of_ble_eq_true rfl) (Nat.le_of_ble_eq_true rfl) (K)
theorem bL_faults_335 {I : Nat → Nat → Int32} {L : Nat → Int64} {Q : Option Value → (Nat → Nat → Int32) → (Nat → Int64) → Prop} {v1 : Int64} {v3 : Int32} {v4 : Int32}  (K : XS mL_says 0 [(0, .ref 0), (1, .int (50 : Int32)), (2, .int (32 : Int32)), (3, .int (49 : Int32)), (4, .int (32 : Int32))] [] I L (fun r I' L' => XS mL_faults 347 [(0, .ref 0), (1, .long v1), (3, .int v3), (4, .int v4)] (r.toList ++ []) I' L' Q)) : XS mL_faults 335 [(0, .ref 0), (1, .long v1), (3, .int v3), (4, .int v4)] [] I L Q := by
  refine x_aload_n 0 dL_faults_335 rfl rfl ?_
  refine x_bipush (v := (50 : Int32)) dL_faults_336 (by decide) ?_
  refine x_bipush (v := (32 : Int32)) dL_faults_338 (by decide) ?_
  refine x_bipush (v := (49 : Int32)) dL_faults_340 (by decide) ?_
  refine x_bipush (v := (32 : Int32)) dL_faults_342 (by decide) ?_
  exact xs_callS mL_says [.ref 0, .int (50 : Int32), .int (32 : Int32), .int (49 : Int32), .int (32 : Int32)] [] 5 _ rfl dL_faults_344 ml_L_25 qL_says rfl ⟨Nat.le_of_ble_eq_true rfl, Nat.le_of_ble_eq_true rfl⟩ ⟨rfl, rfl⟩ (Nat.le_of_ble_eq_true rfl) (Nat.le_of_ble_eq_true rfl) (K)
theorem bL_faults_347 {I : Nat → Nat → Int32} {L : Nat → Int64} {Q : Option Value → (Nat → Nat → Int32) → (Nat → Int64) → Prop} {v1 : Int64} {v3 : Int32} {v4 : Int32}  (K1 : (v4 = 0) → XS mL_faults 365 [(0, .ref 0), (1, .long v1), (3, .int v3)] [] I L Q) (K2 : (¬ v4 = 0) → XS mL_faults 352 [(0, .ref 0), (1, .long v1), (3, .int v3)] [] I L Q) : XS mL_faults 347 [(0, .ref 0), (1, .long v1), (3, .int v3), (4, .int v4)] [] I L Q := by
  refine x_iload 3 dL_faults_347 rfl ?_
  exact x_if_eq 365 dL_faults_349 (by decide) (fun h => x_sub [0, 1, 2] rfl (K1 h)) (fun h => x_sub [0, 1, 2] rfl (K2 h))
theorem bL_faults_352 {I : Nat → Nat → Int32} {L : Nat → Int64} {Q : Option Value → (Nat → Nat → Int32) → (Nat → Int64) → Prop} {v1 : Int64} {v3 : Int32}  (K : XS mX9_fault 0 [(0, .ref 0)] [] I L (fun r I' L' => XS mL_faults 356 [(0, .ref 0), (1, .long v1), (3, .int v3)] (r.toList ++ []) I' L' Q)) : XS mL_faults 352 [(0, .ref 0), (1, .long v1), (3, .int v3)] [] I L Q := by
  refine x_aload_n 0 dL_faults_352 rfl rfl ?_
  exact xs_callV mX9_fault [] [] 0 9 0 _ rfl dL_faults_353 ml_L_33 qX9_fault rfl ⟨Nat.le_of_ble_eq_true rfl, Nat.le_of_ble_eq_true rfl⟩ ⟨rfl, rfl⟩ (Nat.le_of_ble_eq_true rfl) sh_0 (by decide) rfl (Nat.le_of_ble_eq_true rfl) (K)
theorem bL_faults_356 {I : Nat → Nat → Int32} {L : Nat → Int64} {Q : Option Value → (Nat → Nat → Int32) → (Nat → Int64) → Prop} {v1 : Int64} {v3 : Int32} {s0 : Int32}  (K1 : (¬ s0 = (16 : Int32)) → XS mL_faults 365 [(0, .ref 0), (1, .long v1), (3, .int v3)] [] I L Q) (K2 : (s0 = (16 : Int32)) → XS mL_faults 361 [(0, .ref 0), (1, .long v1), (3, .int v3)] [] I L Q) : XS mL_faults 356 [(0, .ref 0), (1, .long v1), (3, .int v3)] [.int s0] I L Q := by
  refine x_bipush (v := (16 : Int32)) dL_faults_356 (by decide) ?_
  exact x_icmp_ne 365 dL_faults_358 (by decide) (fun h => K1 h) (fun h => K2 h)
theorem bL_faults_361 {I : Nat → Nat → Int32} {L : Nat → Int64} {Q : Option Value → (Nat → Nat → Int32) → (Nat → Int64) → Prop} {v1 : Int64} {v3 : Int32}  (K : XS mL_faults 366 [(0, .ref 0), (1, .long v1), (3, .int v3)] [.int (1 : Int32)] I L Q) : XS mL_faults 361 [(0, .ref 0), (1, .long v1), (3, .int v3)] [] I L Q := by
  refine x_iconst (v := (1 : Int32)) dL_faults_361 (by decide) ?_
  exact x_goto 366 dL_faults_362 (by decide) (K)
theorem bL_faults_365 {I : Nat → Nat → Int32} {L : Nat → Int64} {Q : Option Value → (Nat → Nat → Int32) → (Nat → Int64) → Prop} {v1 : Int64} {v3 : Int32}  (K : XS mL_faults 366 [(0, .ref 0), (1, .long v1), (3, .int v3)] [.int (0 : Int32)] I L Q) : XS mL_faults 365 [(0, .ref 0), (1, .long v1), (3, .int v3)] [] I L Q := by
  refine x_iconst (v := (0 : Int32)) dL_faults_365 (by decide) ?_
  exact K
theorem bL_faults_366 {I : Nat → Nat → Int32} {L : Nat → Int64} {Q : Option Value → (Nat → Nat → Int32) → (Nat → Int64) → Prop} {v1 : Int64} {v3 : Int32} {s0 : Int32}  (K : XS mL_says 0 [(0, .ref 0), (1, .int (48 : Int32)), (2, .int (32 : Int32)), (3, .int (49 : Int32)), (4, .int (32 : Int32))] [] I L (fun r I' L' => XS mL_faults 380 [(0, .ref 0), (1, .long v1), (3, .int v3), (4, .int s0)] (r.toList ++ []) I' L' Q)) : XS mL_faults 366 [(0, .ref 0), (1, .long v1), (3, .int v3)] [.int s0] I L Q := by
  refine x_istore [(0, .ref 0), (1, .long v1), (3, .int v3), (4, .int s0)] dL_faults_366 (Nat.le_of_ble_eq_true rfl) rfl ?_
  refine x_aload_n 0 dL_faults_368 rfl rfl ?_
  refine x_bipush (v := (48 : Int32)) dL_faults_369 (by decide) ?_
  refine x_bipush (v := (32 : Int32)) dL_faults_371 (by decide) ?_
  refine x_bipush (v := (49 : Int32)) dL_faults_373 (by decide) ?_
  refine x_bipush (v := (32 : Int32)) dL_faults_375 (by decide) ?_
  exact xs_callS mL_says [.ref 0, .int (48 : Int32), .int (32 : Int32), .int (49 : Int32), .int (32 : Int32)] [] 5 _ rfl dL_faults_377 ml_L_25 qL_says rfl ⟨Nat.le_of_ble_eq_true rfl, Nat.le_of_ble_eq_true rfl⟩ ⟨rfl, rfl⟩ (Nat.le_of_ble_eq_true rfl) (Nat.le_of_ble_eq_true rfl) (K)
theorem bL_faults_380 {I : Nat → Nat → Int32} {L : Nat → Int64} {Q : Option Value → (Nat → Nat → Int32) → (Nat → Int64) → Prop} {v1 : Int64} {v3 : Int32} {v4 : Int32}  (K1 : (v4 = 0) → XS mL_faults 407 [(0, .ref 0), (1, .long v1), (3, .int v3)] [] I L Q) (K2 : (¬ v4 = 0) → XS mL_faults 385 [(0, .ref 0), (1, .long v1), (3, .int v3)] [] I L Q) : XS mL_faults 380 [(0, .ref 0), (1, .long v1), (3, .int v3), (4, .int v4)] [] I L Q := by
  refine x_iload 3 dL_faults_380 rfl ?_
  exact x_if_eq 407 dL_faults_382 (by decide) (fun h => x_sub [0, 1, 2] rfl (K1 h)) (fun h => x_sub [0, 1, 2] rfl (K2 h))
theorem bL_faults_385 {I : Nat → Nat → Int32} {L : Nat → Int64} {Q : Option Value → (Nat → Nat → Int32) → (Nat → Int64) → Prop} {v1 : Int64} {v3 : Int32}  (K : XS mX9_fault 0 [(0, .ref 0)] [] I L (fun r I' L' => XS mL_faults 389 [(0, .ref 0), (1, .long v1), (3, .int v3)] (r.toList ++ []) I' L' Q)) : XS mL_faults 385 [(0, .ref 0), (1, .long v1), (3, .int v3)] [] I L Q := by
  refine x_aload_n 0 dL_faults_385 rfl rfl ?_
  exact xs_callV mX9_fault [] [] 0 9 0 _ rfl dL_faults_386 ml_L_33 qX9_fault rfl ⟨Nat.le_of_ble_eq_true rfl, Nat.le_of_ble_eq_true rfl⟩ ⟨rfl, rfl⟩ (Nat.le_of_ble_eq_true rfl) sh_0 (by decide) rfl (Nat.le_of_ble_eq_true rfl) (K)
theorem bL_faults_389 {I : Nat → Nat → Int32} {L : Nat → Int64} {Q : Option Value → (Nat → Nat → Int32) → (Nat → Int64) → Prop} {v1 : Int64} {v3 : Int32} {s0 : Int32}  (K1 : (¬ s0 = (16 : Int32)) → XS mL_faults 407 [(0, .ref 0), (1, .long v1), (3, .int v3)] [] I L Q) (K2 : (s0 = (16 : Int32)) → XS mL_faults 394 [(0, .ref 0), (1, .long v1), (3, .int v3)] [] I L Q) : XS mL_faults 389 [(0, .ref 0), (1, .long v1), (3, .int v3)] [.int s0] I L Q := by
  refine x_bipush (v := (16 : Int32)) dL_faults_389 (by decide) ?_
  exact x_icmp_ne 407 dL_faults_391 (by decide) (fun h => K1 h) (fun h => K2 h)
theorem bL_faults_394 {I : Nat → Nat → Int32} {L : Nat → Int64} {Q : Option Value → (Nat → Nat → Int32) → (Nat → Int64) → Prop} {v1 : Int64} {v3 : Int32}  (K : XS mX9_erase 0 [(0, .ref 0)] [] I L (fun r I' L' => XS mL_faults 398 [(0, .ref 0), (1, .long v1), (3, .int v3)] (r.toList ++ []) I' L' Q)) : XS mL_faults 394 [(0, .ref 0), (1, .long v1), (3, .int v3)] [] I L Q := by
  refine x_aload_n 0 dL_faults_394 rfl rfl ?_
  exact xs_callV mX9_erase [] [] 0 9 0 _ rfl dL_faults_395 ml_L_19 qX9_erase rfl ⟨Nat.le_of_ble_eq_true rfl, Nat.le_of_ble_eq_true rfl⟩ ⟨rfl, rfl⟩ (Nat.le_of_ble_eq_true rfl) sh_0 (by decide) rfl (Nat.le_of_ble_eq_true rfl) (K)
theorem bL_faults_398 {I : Nat → Nat → Int32} {L : Nat → Int64} {Q : Option Value → (Nat → Nat → Int32) → (Nat → Int64) → Prop} {v1 : Int64} {v3 : Int32} {s0 : Int32}  (K1 : (¬ s0 = (20 : Int32)) → XS mL_faults 407 [(0, .ref 0), (1, .long v1), (3, .int v3)] [] I L Q) (K2 : (s0 = (20 : Int32)) → XS mL_faults 403 [(0, .ref 0), (1, .long v1), (3, .int v3)] [] I L Q) : XS mL_faults 398 [(0, .ref 0), (1, .long v1), (3, .int v3)] [.int s0] I L Q := by
  refine x_bipush (v := (20 : Int32)) dL_faults_398 (by decide) ?_
  exact x_icmp_ne 407 dL_faults_400 (by decide) (fun h => K1 h) (fun h => K2 h)
theorem bL_faults_403 {I : Nat → Nat → Int32} {L : Nat → Int64} {Q : Option Value → (Nat → Nat → Int32) → (Nat → Int64) → Prop} {v1 : Int64} {v3 : Int32}  (K : XS mL_faults 408 [(0, .ref 0), (1, .long v1), (3, .int v3)] [.int (1 : Int32)] I L Q) : XS mL_faults 403 [(0, .ref 0), (1, .long v1), (3, .int v3)] [] I L Q := by
  refine x_iconst (v := (1 : Int32)) dL_faults_403 (by decide) ?_
  exact x_goto 408 dL_faults_404 (by decide) (K)
theorem bL_faults_407 {I : Nat → Nat → Int32} {L : Nat → Int64} {Q : Option Value → (Nat → Nat → Int32) → (Nat → Int64) → Prop} {v1 : Int64} {v3 : Int32}  (K : XS mL_faults 408 [(0, .ref 0), (1, .long v1), (3, .int v3)] [.int (0 : Int32)] I L Q) : XS mL_faults 407 [(0, .ref 0), (1, .long v1), (3, .int v3)] [] I L Q := by
  refine x_iconst (v := (0 : Int32)) dL_faults_407 (by decide) ?_
  exact K
theorem bL_faults_408 {I : Nat → Nat → Int32} {L : Nat → Int64} {Q : Option Value → (Nat → Nat → Int32) → (Nat → Int64) → Prop} {v1 : Int64} {v3 : Int32} {s0 : Int32}  (K : XS mL_says 0 [(0, .ref 0), (1, .int (110 : Int32)), (2, .int (111 : Int32)), (3, .int (100 : Int32)), (4, .int (101 : Int32))] [] I L (fun r I' L' => XS mL_faults 422 [(0, .ref 0), (1, .long v1), (3, .int v3), (4, .int s0)] (r.toList ++ []) I' L' Q)) : XS mL_faults 408 [(0, .ref 0), (1, .long v1), (3, .int v3)] [.int s0] I L Q := by
  refine x_istore [(0, .ref 0), (1, .long v1), (3, .int v3), (4, .int s0)] dL_faults_408 (Nat.le_of_ble_eq_true rfl) rfl ?_
  refine x_aload_n 0 dL_faults_410 rfl rfl ?_
  refine x_bipush (v := (110 : Int32)) dL_faults_411 (by decide) ?_
  refine x_bipush (v := (111 : Int32)) dL_faults_413 (by decide) ?_
  refine x_bipush (v := (100 : Int32)) dL_faults_415 (by decide) ?_
  refine x_bipush (v := (101 : Int32)) dL_faults_417 (by decide) ?_
  exact xs_callS mL_says [.ref 0, .int (110 : Int32), .int (111 : Int32), .int (100 : Int32), .int (101 : Int32)] [] 5 _ rfl dL_faults_419 ml_L_25 qL_says rfl ⟨Nat.le_of_ble_eq_true rfl, Nat.le_of_ble_eq_true rfl⟩ ⟨rfl, rfl⟩ (Nat.le_of_ble_eq_true rfl) (Nat.le_of_ble_eq_true rfl) (K)
theorem bL_faults_422 {I : Nat → Nat → Int32} {L : Nat → Int64} {Q : Option Value → (Nat → Nat → Int32) → (Nat → Int64) → Prop} {v1 : Int64} {v3 : Int32} {v4 : Int32}  (K : XS mL_says 0 [(0, .ref 0), (1, .int (115 : Int32)), (2, .int (51 : Int32)), (3, .int (46 : Int32)), (4, .int (32 : Int32))] [] I L (fun r I' L' => XS mL_faults 434 [(0, .ref 0), (1, .long v1), (3, .int v3), (4, .int v4)] (r.toList ++ []) I' L' Q)) : XS mL_faults 422 [(0, .ref 0), (1, .long v1), (3, .int v3), (4, .int v4)] [] I L Q := by
  refine x_aload_n 0 dL_faults_422 rfl rfl ?_
  refine x_bipush (v := (115 : Int32)) dL_faults_423 (by decide) ?_
  refine x_bipush (v := (51 : Int32)) dL_faults_425 (by decide) ?_
  refine x_bipush (v := (46 : Int32)) dL_faults_427 (by decide) ?_
  refine x_bipush (v := (32 : Int32)) dL_faults_429 (by decide) ?_
  exact xs_callS mL_says [.ref 0, .int (115 : Int32), .int (51 : Int32), .int (46 : Int32), .int (32 : Int32)] [] 5 _ rfl dL_faults_431 ml_L_25 qL_says rfl ⟨Nat.le_of_ble_eq_true rfl, Nat.le_of_ble_eq_true rfl⟩ ⟨rfl, rfl⟩ (Nat.le_of_ble_eq_true rfl) (Nat.le_of_ble_eq_true rfl) (K)
theorem bL_faults_434 {I : Nat → Nat → Int32} {L : Nat → Int64} {Q : Option Value → (Nat → Nat → Int32) → (Nat → Int64) → Prop} {v1 : Int64} {v3 : Int32} {v4 : Int32}  (K1 : (v4 = 0) → XS mL_faults 461 [(0, .ref 0), (1, .long v1), (3, .int v3)] [] I L Q) (K2 : (¬ v4 = 0) → XS mL_faults 439 [(0, .ref 0), (1, .long v1), (3, .int v3)] [] I L Q) : XS mL_faults 434 [(0, .ref 0), (1, .long v1), (3, .int v3), (4, .int v4)] [] I L Q := by
  refine x_iload 3 dL_faults_434 rfl ?_
  exact x_if_eq 461 dL_faults_436 (by decide) (fun h => x_sub [0, 1, 2] rfl (K1 h)) (fun h => x_sub [0, 1, 2] rfl (K2 h))
theorem bL_faults_439 {I : Nat → Nat → Int32} {L : Nat → Int64} {Q : Option Value → (Nat → Nat → Int32) → (Nat → Int64) → Prop} {v1 : Int64} {v3 : Int32}  (K : XS mX9_fault 0 [(0, .ref 0)] [] I L (fun r I' L' => XS mL_faults 443 [(0, .ref 0), (1, .long v1), (3, .int v3)] (r.toList ++ []) I' L' Q)) : XS mL_faults 439 [(0, .ref 0), (1, .long v1), (3, .int v3)] [] I L Q := by
  refine x_aload_n 0 dL_faults_439 rfl rfl ?_
  exact xs_callV mX9_fault [] [] 0 9 0 _ rfl dL_faults_440 ml_L_33 qX9_fault rfl ⟨Nat.le_of_ble_eq_true rfl, Nat.le_of_ble_eq_true rfl⟩ ⟨rfl, rfl⟩ (Nat.le_of_ble_eq_true rfl) sh_0 (by decide) rfl (Nat.le_of_ble_eq_true rfl) (K)
theorem bL_faults_443 {I : Nat → Nat → Int32} {L : Nat → Int64} {Q : Option Value → (Nat → Nat → Int32) → (Nat → Int64) → Prop} {v1 : Int64} {v3 : Int32} {s0 : Int32}  (K1 : (¬ s0 = (6 : Int32)) → XS mL_faults 461 [(0, .ref 0), (1, .long v1), (3, .int v3)] [] I L Q) (K2 : (s0 = (6 : Int32)) → XS mL_faults 448 [(0, .ref 0), (1, .long v1), (3, .int v3)] [] I L Q) : XS mL_faults 443 [(0, .ref 0), (1, .long v1), (3, .int v3)] [.int s0] I L Q := by
  refine x_bipush (v := (6 : Int32)) dL_faults_443 (by decide) ?_
  exact x_icmp_ne 461 dL_faults_445 (by decide) (fun h => K1 h) (fun h => K2 h)
theorem bL_faults_448 {I : Nat → Nat → Int32} {L : Nat → Int64} {Q : Option Value → (Nat → Nat → Int32) → (Nat → Int64) → Prop} {v1 : Int64} {v3 : Int32}  (K : XS mX9_erase 0 [(0, .ref 0)] [] I L (fun r I' L' => XS mL_faults 452 [(0, .ref 0), (1, .long v1), (3, .int v3)] (r.toList ++ []) I' L' Q)) : XS mL_faults 448 [(0, .ref 0), (1, .long v1), (3, .int v3)] [] I L Q := by
  refine x_aload_n 0 dL_faults_448 rfl rfl ?_
  exact xs_callV mX9_erase [] [] 0 9 0 _ rfl dL_faults_449 ml_L_19 qX9_erase rfl ⟨Nat.le_of_ble_eq_true rfl, Nat.le_of_ble_eq_true rfl⟩ ⟨rfl, rfl⟩ (Nat.le_of_ble_eq_true rfl) sh_0 (by decide) rfl (Nat.le_of_ble_eq_true rfl) (K)
theorem bL_faults_452 {I : Nat → Nat → Int32} {L : Nat → Int64} {Q : Option Value → (Nat → Nat → Int32) → (Nat → Int64) → Prop} {v1 : Int64} {v3 : Int32} {s0 : Int32}  (K1 : (¬ s0 = (8 : Int32)) → XS mL_faults 461 [(0, .ref 0), (1, .long v1), (3, .int v3)] [] I L Q) (K2 : (s0 = (8 : Int32)) → XS mL_faults 457 [(0, .ref 0), (1, .long v1), (3, .int v3)] [] I L Q) : XS mL_faults 452 [(0, .ref 0), (1, .long v1), (3, .int v3)] [.int s0] I L Q := by
  refine x_bipush (v := (8 : Int32)) dL_faults_452 (by decide) ?_
  exact x_icmp_ne 461 dL_faults_454 (by decide) (fun h => K1 h) (fun h => K2 h)
theorem bL_faults_457 {I : Nat → Nat → Int32} {L : Nat → Int64} {Q : Option Value → (Nat → Nat → Int32) → (Nat → Int64) → Prop} {v1 : Int64} {v3 : Int32}  (K : XS mL_faults 462 [(0, .ref 0), (1, .long v1), (3, .int v3)] [.int (1 : Int32)] I L Q) : XS mL_faults 457 [(0, .ref 0), (1, .long v1), (3, .int v3)] [] I L Q := by
  refine x_iconst (v := (1 : Int32)) dL_faults_457 (by decide) ?_
  exact x_goto 462 dL_faults_458 (by decide) (K)
theorem bL_faults_461 {I : Nat → Nat → Int32} {L : Nat → Int64} {Q : Option Value → (Nat → Nat → Int32) → (Nat → Int64) → Prop} {v1 : Int64} {v3 : Int32}  (K : XS mL_faults 462 [(0, .ref 0), (1, .long v1), (3, .int v3)] [.int (0 : Int32)] I L Q) : XS mL_faults 461 [(0, .ref 0), (1, .long v1), (3, .int v3)] [] I L Q := by
  refine x_iconst (v := (0 : Int32)) dL_faults_461 (by decide) ?_
  exact K
theorem bL_faults_462 {I : Nat → Nat → Int32} {L : Nat → Int64} {Q : Option Value → (Nat → Nat → Int32) → (Nat → Int64) → Prop} {v1 : Int64} {v3 : Int32} {s0 : Int32}  (K : XS mL_says 0 [(0, .ref 0), (1, .int (110 : Int32)), (2, .int (111 : Int32)), (3, .int (100 : Int32)), (4, .int (101 : Int32))] [] I L (fun r I' L' => XS mL_faults 476 [(0, .ref 0), (1, .long v1), (3, .int v3), (4, .int s0)] (r.toList ++ []) I' L' Q)) : XS mL_faults 462 [(0, .ref 0), (1, .long v1), (3, .int v3)] [.int s0] I L Q := by
  refine x_istore [(0, .ref 0), (1, .long v1), (3, .int v3), (4, .int s0)] dL_faults_462 (Nat.le_of_ble_eq_true rfl) rfl ?_
  refine x_aload_n 0 dL_faults_464 rfl rfl ?_
  refine x_bipush (v := (110 : Int32)) dL_faults_465 (by decide) ?_
  refine x_bipush (v := (111 : Int32)) dL_faults_467 (by decide) ?_
  refine x_bipush (v := (100 : Int32)) dL_faults_469 (by decide) ?_
  refine x_bipush (v := (101 : Int32)) dL_faults_471 (by decide) ?_
  exact xs_callS mL_says [.ref 0, .int (110 : Int32), .int (111 : Int32), .int (100 : Int32), .int (101 : Int32)] [] 5 _ rfl dL_faults_473 ml_L_25 qL_says rfl ⟨Nat.le_of_ble_eq_true rfl, Nat.le_of_ble_eq_true rfl⟩ ⟨rfl, rfl⟩ (Nat.le_of_ble_eq_true rfl) (Nat.le_of_ble_eq_true rfl) (K)
theorem bL_faults_476 {I : Nat → Nat → Int32} {L : Nat → Int64} {Q : Option Value → (Nat → Nat → Int32) → (Nat → Int64) → Prop} {v1 : Int64} {v3 : Int32} {v4 : Int32}  (K : XS mL_says 0 [(0, .ref 0), (1, .int (51 : Int32)), (2, .int (32 : Int32)), (3, .int (32 : Int32)), (4, .int (32 : Int32))] [] I L (fun r I' L' => XS mL_faults 488 [(0, .ref 0), (1, .long v1), (3, .int v3), (4, .int v4)] (r.toList ++ []) I' L' Q)) : XS mL_faults 476 [(0, .ref 0), (1, .long v1), (3, .int v3), (4, .int v4)] [] I L Q := by
  refine x_aload_n 0 dL_faults_476 rfl rfl ?_
  refine x_bipush (v := (51 : Int32)) dL_faults_477 (by decide) ?_
  refine x_bipush (v := (32 : Int32)) dL_faults_479 (by decide) ?_
  refine x_bipush (v := (32 : Int32)) dL_faults_481 (by decide) ?_
  refine x_bipush (v := (32 : Int32)) dL_faults_483 (by decide) ?_
  exact xs_callS mL_says [.ref 0, .int (51 : Int32), .int (32 : Int32), .int (32 : Int32), .int (32 : Int32)] [] 5 _ rfl dL_faults_485 ml_L_25 qL_says rfl ⟨Nat.le_of_ble_eq_true rfl, Nat.le_of_ble_eq_true rfl⟩ ⟨rfl, rfl⟩ (Nat.le_of_ble_eq_true rfl) (Nat.le_of_ble_eq_true rfl) (K)
theorem bL_faults_488 {I : Nat → Nat → Int32} {L : Nat → Int64} {Q : Option Value → (Nat → Nat → Int32) → (Nat → Int64) → Prop} {v1 : Int64} {v3 : Int32} {v4 : Int32}  (K1 : (v4 = 0) → XS mL_faults 513 [(0, .ref 0), (1, .long v1), (3, .int v3)] [] I L Q) (K2 : (¬ v4 = 0) → XS mL_faults 493 [(0, .ref 0), (1, .long v1), (3, .int v3)] [] I L Q) : XS mL_faults 488 [(0, .ref 0), (1, .long v1), (3, .int v3), (4, .int v4)] [] I L Q := by
  refine x_iload 3 dL_faults_488 rfl ?_
  exact x_if_eq 513 dL_faults_490 (by decide) (fun h => x_sub [0, 1, 2] rfl (K1 h)) (fun h => x_sub [0, 1, 2] rfl (K2 h))
theorem bL_faults_493 {I : Nat → Nat → Int32} {L : Nat → Int64} {Q : Option Value → (Nat → Nat → Int32) → (Nat → Int64) → Prop} {v1 : Int64} {v3 : Int32}  (K : XS mX9_fault 0 [(0, .ref 0)] [] I L (fun r I' L' => XS mL_faults 497 [(0, .ref 0), (1, .long v1), (3, .int v3)] (r.toList ++ []) I' L' Q)) : XS mL_faults 493 [(0, .ref 0), (1, .long v1), (3, .int v3)] [] I L Q := by
  refine x_aload_n 0 dL_faults_493 rfl rfl ?_
  exact xs_callV mX9_fault [] [] 0 9 0 _ rfl dL_faults_494 ml_L_33 qX9_fault rfl ⟨Nat.le_of_ble_eq_true rfl, Nat.le_of_ble_eq_true rfl⟩ ⟨rfl, rfl⟩ (Nat.le_of_ble_eq_true rfl) sh_0 (by decide) rfl (Nat.le_of_ble_eq_true rfl) (K)
theorem bL_faults_497 {I : Nat → Nat → Int32} {L : Nat → Int64} {Q : Option Value → (Nat → Nat → Int32) → (Nat → Int64) → Prop} {v1 : Int64} {v3 : Int32} {s0 : Int32}  (K1 : (¬ s0 = 0) → XS mL_faults 513 [(0, .ref 0), (1, .long v1), (3, .int v3)] [] I L Q) (K2 : (s0 = 0) → XS mL_faults 500 [(0, .ref 0), (1, .long v1), (3, .int v3)] [] I L Q) : XS mL_faults 497 [(0, .ref 0), (1, .long v1), (3, .int v3)] [.int s0] I L Q := by
  exact x_if_ne 513 dL_faults_497 (by decide) (fun h => K1 h) (fun h => K2 h)
theorem bL_faults_500 {I : Nat → Nat → Int32} {L : Nat → Int64} {Q : Option Value → (Nat → Nat → Int32) → (Nat → Int64) → Prop} {v1 : Int64} {v3 : Int32}  (K : XS mX9_erase 0 [(0, .ref 0)] [] I L (fun r I' L' => XS mL_faults 504 [(0, .ref 0), (1, .long v1), (3, .int v3)] (r.toList ++ []) I' L' Q)) : XS mL_faults 500 [(0, .ref 0), (1, .long v1), (3, .int v3)] [] I L Q := by
  refine x_aload_n 0 dL_faults_500 rfl rfl ?_
  exact xs_callV mX9_erase [] [] 0 9 0 _ rfl dL_faults_501 ml_L_19 qX9_erase rfl ⟨Nat.le_of_ble_eq_true rfl, Nat.le_of_ble_eq_true rfl⟩ ⟨rfl, rfl⟩ (Nat.le_of_ble_eq_true rfl) sh_0 (by decide) rfl (Nat.le_of_ble_eq_true rfl) (K)
theorem bL_faults_504 {I : Nat → Nat → Int32} {L : Nat → Int64} {Q : Option Value → (Nat → Nat → Int32) → (Nat → Int64) → Prop} {v1 : Int64} {v3 : Int32} {s0 : Int32}  (K1 : (¬ s0 = (8 : Int32)) → XS mL_faults 513 [(0, .ref 0), (1, .long v1), (3, .int v3)] [] I L Q) (K2 : (s0 = (8 : Int32)) → XS mL_faults 509 [(0, .ref 0), (1, .long v1), (3, .int v3)] [] I L Q) : XS mL_faults 504 [(0, .ref 0), (1, .long v1), (3, .int v3)] [.int s0] I L Q := by
  refine x_bipush (v := (8 : Int32)) dL_faults_504 (by decide) ?_
  exact x_icmp_ne 513 dL_faults_506 (by decide) (fun h => K1 h) (fun h => K2 h)
theorem bL_faults_509 {I : Nat → Nat → Int32} {L : Nat → Int64} {Q : Option Value → (Nat → Nat → Int32) → (Nat → Int64) → Prop} {v1 : Int64} {v3 : Int32}  (K : XS mL_faults 514 [(0, .ref 0), (1, .long v1), (3, .int v3)] [.int (1 : Int32)] I L Q) : XS mL_faults 509 [(0, .ref 0), (1, .long v1), (3, .int v3)] [] I L Q := by
  refine x_iconst (v := (1 : Int32)) dL_faults_509 (by decide) ?_
  exact x_goto 514 dL_faults_510 (by decide) (K)
theorem bL_faults_513 {I : Nat → Nat → Int32} {L : Nat → Int64} {Q : Option Value → (Nat → Nat → Int32) → (Nat → Int64) → Prop} {v1 : Int64} {v3 : Int32}  (K : XS mL_faults 514 [(0, .ref 0), (1, .long v1), (3, .int v3)] [.int (0 : Int32)] I L Q) : XS mL_faults 513 [(0, .ref 0), (1, .long v1), (3, .int v3)] [] I L Q := by
  refine x_iconst (v := (0 : Int32)) dL_faults_513 (by decide) ?_
  exact K
theorem bL_faults_514 {I : Nat → Nat → Int32} {L : Nat → Int64} {Q : Option Value → (Nat → Nat → Int32) → (Nat → Int64) → Prop} {v1 : Int64} {v3 : Int32} {s0 : Int32}  (K : XS mL_says 0 [(0, .ref 0), (1, .int (110 : Int32)), (2, .int (111 : Int32)), (3, .int (100 : Int32)), (4, .int (101 : Int32))] [] I L (fun r I' L' => XS mL_faults 528 [(0, .ref 0), (1, .long v1), (3, .int v3), (4, .int s0)] (r.toList ++ []) I' L' Q)) : XS mL_faults 514 [(0, .ref 0), (1, .long v1), (3, .int v3)] [.int s0] I L Q := by
  refine x_istore [(0, .ref 0), (1, .long v1), (3, .int v3), (4, .int s0)] dL_faults_514 (Nat.le_of_ble_eq_true rfl) rfl ?_
  refine x_aload_n 0 dL_faults_516 rfl rfl ?_
  refine x_bipush (v := (110 : Int32)) dL_faults_517 (by decide) ?_
  refine x_bipush (v := (111 : Int32)) dL_faults_519 (by decide) ?_
  refine x_bipush (v := (100 : Int32)) dL_faults_521 (by decide) ?_
  refine x_bipush (v := (101 : Int32)) dL_faults_523 (by decide) ?_
  exact xs_callS mL_says [.ref 0, .int (110 : Int32), .int (111 : Int32), .int (100 : Int32), .int (101 : Int32)] [] 5 _ rfl dL_faults_525 ml_L_25 qL_says rfl ⟨Nat.le_of_ble_eq_true rfl, Nat.le_of_ble_eq_true rfl⟩ ⟨rfl, rfl⟩ (Nat.le_of_ble_eq_true rfl) (Nat.le_of_ble_eq_true rfl) (K)
theorem bL_faults_528 {I : Nat → Nat → Int32} {L : Nat → Int64} {Q : Option Value → (Nat → Nat → Int32) → (Nat → Int64) → Prop} {v1 : Int64} {v3 : Int32} {v4 : Int32}  (K : XS mL_says 0 [(0, .ref 0), (1, .int (115 : Int32)), (2, .int (56 : Int32)), (3, .int (32 : Int32)), (4, .int (32 : Int32))] [] I L (fun r I' L' => XS mL_faults 540 [(0, .ref 0), (1, .long v1), (3, .int v3), (4, .int v4)] (r.toList ++ []) I' L' Q)) : XS mL_faults 528 [(0, .ref 0), (1, .long v1), (3, .int v3), (4, .int v4)] [] I L Q := by
  refine x_aload_n 0 dL_faults_528 rfl rfl ?_
  refine x_bipush (v := (115 : Int32)) dL_faults_529 (by decide) ?_
  refine x_bipush (v := (56 : Int32)) dL_faults_531 (by decide) ?_
  refine x_bipush (v := (32 : Int32)) dL_faults_533 (by decide) ?_
  refine x_bipush (v := (32 : Int32)) dL_faults_535 (by decide) ?_
  exact xs_callS mL_says [.ref 0, .int (115 : Int32), .int (56 : Int32), .int (32 : Int32), .int (32 : Int32)] [] 5 _ rfl dL_faults_537 ml_L_25 qL_says rfl ⟨Nat.le_of_ble_eq_true rfl, Nat.le_of_ble_eq_true rfl⟩ ⟨rfl, rfl⟩ (Nat.le_of_ble_eq_true rfl) (Nat.le_of_ble_eq_true rfl) (K)
theorem bL_faults_540 {I : Nat → Nat → Int32} {L : Nat → Int64} {Q : Option Value → (Nat → Nat → Int32) → (Nat → Int64) → Prop} {v1 : Int64} {v3 : Int32} {v4 : Int32}  (K : XS mL_faults 543 [(0, .ref 0), (1, .long v1), (3, .int v3), (4, .int v4), (5, .int (0 : Int32))] [] I L Q) : XS mL_faults 540 [(0, .ref 0), (1, .long v1), (3, .int v3), (4, .int v4)] [] I L Q := by
  refine x_iconst (v := (0 : Int32)) dL_faults_540 (by decide) ?_
  refine x_istore [(0, .ref 0), (1, .long v1), (3, .int v3), (4, .int v4), (5, .int (0 : Int32))] dL_faults_541 (Nat.le_of_ble_eq_true rfl) rfl ?_
  exact K
theorem bL_faults_543 {I : Nat → Nat → Int32} {L : Nat → Int64} {Q : Option Value → (Nat → Nat → Int32) → (Nat → Int64) → Prop} {v1 : Int64} {v3 : Int32} {v4 : Int32} {v5 : Int32}  (K1 : ((14 : Int32) ≤ v5) → XS mL_faults 623 [(0, .ref 0), (1, .long v1), (3, .int v3), (4, .int v4)] [] I L Q) (K2 : (¬ (14 : Int32) ≤ v5) → XS mL_faults 550 [(0, .ref 0), (1, .long v1), (3, .int v3), (4, .int v4), (5, .int v5)] [] I L Q) : XS mL_faults 543 [(0, .ref 0), (1, .long v1), (3, .int v3), (4, .int v4), (5, .int v5)] [] I L Q := by
  refine x_iload 4 dL_faults_543 rfl ?_
  refine x_bipush (v := (14 : Int32)) dL_faults_545 (by decide) ?_
  exact x_icmp_ge 623 dL_faults_547 (by decide) (fun h => x_sub [0, 1, 2, 3] rfl (K1 h)) (fun h => K2 h)
theorem bL_faults_550 {I : Nat → Nat → Int32} {L : Nat → Int64} {Q : Option Value → (Nat → Nat → Int32) → (Nat → Int64) → Prop} {v1 : Int64} {v3 : Int32} {v4 : Int32} {v5 : Int32}  (K : XS mL_says 0 [(0, .ref 0), (1, .int (59 : Int32)), (2, .int (108 : Int32)), (3, .int (105 : Int32)), (4, .int (110 : Int32))] [] I L (fun r I' L' => XS mL_faults 562 [(0, .ref 0), (1, .long v1), (3, .int v3), (4, .int v4), (5, .int v5)] (r.toList ++ []) I' L' Q)) : XS mL_faults 550 [(0, .ref 0), (1, .long v1), (3, .int v3), (4, .int v4), (5, .int v5)] [] I L Q := by
  refine x_aload_n 0 dL_faults_550 rfl rfl ?_
  refine x_bipush (v := (59 : Int32)) dL_faults_551 (by decide) ?_
  refine x_bipush (v := (108 : Int32)) dL_faults_553 (by decide) ?_
  refine x_bipush (v := (105 : Int32)) dL_faults_555 (by decide) ?_
  refine x_bipush (v := (110 : Int32)) dL_faults_557 (by decide) ?_
  exact xs_callS mL_says [.ref 0, .int (59 : Int32), .int (108 : Int32), .int (105 : Int32), .int (110 : Int32)] [] 5 _ rfl dL_faults_559 ml_L_25 qL_says rfl ⟨Nat.le_of_ble_eq_true rfl, Nat.le_of_ble_eq_true rfl⟩ ⟨rfl, rfl⟩ (Nat.le_of_ble_eq_true rfl) (Nat.le_of_ble_eq_true rfl) (K)
theorem bL_faults_562 {I : Nat → Nat → Int32} {L : Nat → Int64} {Q : Option Value → (Nat → Nat → Int32) → (Nat → Int64) → Prop} {v1 : Int64} {v3 : Int32} {v4 : Int32} {v5 : Int32}  (K1 : ((7 : Int32) ≤ v5) → XS mL_faults 578 [(0, .ref 0), (1, .long v1), (3, .int v3), (4, .int v4), (5, .int v5)] [.int (48 : Int32), .int (107 : Int32), .ref 0] I L Q) (K2 : (¬ (7 : Int32) ≤ v5) → XS mL_faults 574 [(0, .ref 0), (1, .long v1), (3, .int v3), (4, .int v4), (5, .int v5)] [.int (48 : Int32), .int (107 : Int32), .ref 0] I L Q) : XS mL_faults 562 [(0, .ref 0), (1, .long v1), (3, .int v3), (4, .int v4), (5, .int v5)] [] I L Q := by
  refine x_aload_n 0 dL_faults_562 rfl rfl ?_
  refine x_bipush (v := (107 : Int32)) dL_faults_563 (by decide) ?_
  refine x_bipush (v := (48 : Int32)) dL_faults_565 (by decide) ?_
  refine x_iload 4 dL_faults_567 rfl ?_
  refine x_bipush (v := (7 : Int32)) dL_faults_569 (by decide) ?_
  exact x_icmp_ge 578 dL_faults_571 (by decide) (fun h => K1 h) (fun h => K2 h)
theorem bL_faults_574 {I : Nat → Nat → Int32} {L : Nat → Int64} {Q : Option Value → (Nat → Nat → Int32) → (Nat → Int64) → Prop} {v1 : Int64} {v3 : Int32} {v4 : Int32} {v5 : Int32} {s1 : Int32} {s2 : Int32}  (K : XS mL_faults 579 [(0, .ref 0), (1, .long v1), (3, .int v3), (4, .int v4), (5, .int v5)] [.int (0 : Int32), .int s2, .int s1, .ref 0] I L Q) : XS mL_faults 574 [(0, .ref 0), (1, .long v1), (3, .int v3), (4, .int v4), (5, .int v5)] [.int s2, .int s1, .ref 0] I L Q := by
  refine x_iconst (v := (0 : Int32)) dL_faults_574 (by decide) ?_
  exact x_goto 579 dL_faults_575 (by decide) (K)
theorem bL_faults_578 {I : Nat → Nat → Int32} {L : Nat → Int64} {Q : Option Value → (Nat → Nat → Int32) → (Nat → Int64) → Prop} {v1 : Int64} {v3 : Int32} {v4 : Int32} {v5 : Int32} {s1 : Int32} {s2 : Int32}  (K : XS mL_faults 579 [(0, .ref 0), (1, .long v1), (3, .int v3), (4, .int v4), (5, .int v5)] [.int (1 : Int32), .int s2, .int s1, .ref 0] I L Q) : XS mL_faults 578 [(0, .ref 0), (1, .long v1), (3, .int v3), (4, .int v4), (5, .int v5)] [.int s2, .int s1, .ref 0] I L Q := by
  refine x_iconst (v := (1 : Int32)) dL_faults_578 (by decide) ?_
  exact K
theorem bL_faults_579 {I : Nat → Nat → Int32} {L : Nat → Int64} {Q : Option Value → (Nat → Nat → Int32) → (Nat → Int64) → Prop} {v1 : Int64} {v3 : Int32} {v4 : Int32} {v5 : Int32} {s1 : Int32} {s2 : Int32} {s3 : Int32}  (K1 : ((7 : Int32) ≤ v5) → XS mL_faults 597 [(0, .ref 0), (1, .long v1), (3, .int v3), (4, .int v4), (5, .int v5)] [.int (32 : Int32), .int (s2 + s3), .int s1, .ref 0] I L Q) (K2 : (¬ (7 : Int32) ≤ v5) → XS mL_faults 589 [(0, .ref 0), (1, .long v1), (3, .int v3), (4, .int v4), (5, .int v5)] [.int (32 : Int32), .int (s2 + s3), .int s1, .ref 0] I L Q) : XS mL_faults 579 [(0, .ref 0), (1, .long v1), (3, .int v3), (4, .int v4), (5, .int v5)] [.int s3, .int s2, .int s1, .ref 0] I L Q := by
  refine x_iadd dL_faults_579 ?_
  refine x_bipush (v := (32 : Int32)) dL_faults_580 (by decide) ?_
  refine x_iload 4 dL_faults_582 rfl ?_
  refine x_bipush (v := (7 : Int32)) dL_faults_584 (by decide) ?_
  exact x_icmp_ge 597 dL_faults_586 (by decide) (fun h => K1 h) (fun h => K2 h)
theorem bL_faults_589 {I : Nat → Nat → Int32} {L : Nat → Int64} {Q : Option Value → (Nat → Nat → Int32) → (Nat → Int64) → Prop} {v1 : Int64} {v3 : Int32} {v4 : Int32} {v5 : Int32} {s1 : Int32} {s2 : Int32} {s3 : Int32}  (K : XS mL_faults 602 [(0, .ref 0), (1, .long v1), (3, .int v3), (4, .int v4), (5, .int v5)] [.int ((49 : Int32) + v5), .int s3, .int s2, .int s1, .ref 0] I L Q) : XS mL_faults 589 [(0, .ref 0), (1, .long v1), (3, .int v3), (4, .int v4), (5, .int v5)] [.int s3, .int s2, .int s1, .ref 0] I L Q := by
  refine x_bipush (v := (49 : Int32)) dL_faults_589 (by decide) ?_
  refine x_iload 4 dL_faults_591 rfl ?_
  refine x_iadd dL_faults_593 ?_
  exact x_goto 602 dL_faults_594 (by decide) (K)
theorem bL_faults_597 {I : Nat → Nat → Int32} {L : Nat → Int64} {Q : Option Value → (Nat → Nat → Int32) → (Nat → Int64) → Prop} {v1 : Int64} {v3 : Int32} {v4 : Int32} {v5 : Int32} {s1 : Int32} {s2 : Int32} {s3 : Int32}  (K : XS mL_faults 602 [(0, .ref 0), (1, .long v1), (3, .int v3), (4, .int v4), (5, .int v5)] [.int ((43 : Int32) + v5), .int s3, .int s2, .int s1, .ref 0] I L Q) : XS mL_faults 597 [(0, .ref 0), (1, .long v1), (3, .int v3), (4, .int v4), (5, .int v5)] [.int s3, .int s2, .int s1, .ref 0] I L Q := by
  refine x_bipush (v := (43 : Int32)) dL_faults_597 (by decide) ?_
  refine x_iload 4 dL_faults_599 rfl ?_
  refine x_iadd dL_faults_601 ?_
  exact K
theorem bL_faults_602 {I : Nat → Nat → Int32} {L : Nat → Int64} {Q : Option Value → (Nat → Nat → Int32) → (Nat → Int64) → Prop} {v1 : Int64} {v3 : Int32} {v4 : Int32} {v5 : Int32} {s1 : Int32} {s2 : Int32} {s3 : Int32} {s4 : Int32}  (K : XS mL_says 0 [(0, .ref 0), (1, .int s1), (2, .int s2), (3, .int s3), (4, .int s4)] [] I L (fun r I' L' => XS mL_faults 605 [(0, .ref 0), (1, .long v1), (3, .int v3), (4, .int v4), (5, .int v5)] (r.toList ++ []) I' L' Q)) : XS mL_faults 602 [(0, .ref 0), (1, .long v1), (3, .int v3), (4, .int v4), (5, .int v5)] [.int s4, .int s3, .int s2, .int s1, .ref 0] I L Q := by
  exact xs_callS mL_says [.ref 0, .int s1, .int s2, .int s3, .int s4] [] 5 _ rfl dL_faults_602 ml_L_25 qL_says rfl ⟨Nat.le_of_ble_eq_true rfl, Nat.le_of_ble_eq_true rfl⟩ ⟨rfl, rfl⟩ (Nat.le_of_ble_eq_true rfl) (Nat.le_of_ble_eq_true rfl) (K)
theorem bL_faults_605 {I : Nat → Nat → Int32} {L : Nat → Int64} {Q : Option Value → (Nat → Nat → Int32) → (Nat → Int64) → Prop} {v1 : Int64} {v3 : Int32} {v4 : Int32} {v5 : Int32}  (K : XS mL_says 0 [(0, .ref 0), (1, .int (32 : Int32)), (2, .int (49 : Int32)), (3, .int (32 : Int32)), (4, .int (49 : Int32))] [] I L (fun r I' L' => XS mL_faults 617 [(0, .ref 0), (1, .long v1), (3, .int v3), (4, .int v4), (5, .int v5)] (r.toList ++ []) I' L' Q)) : XS mL_faults 605 [(0, .ref 0), (1, .long v1), (3, .int v3), (4, .int v4), (5, .int v5)] [] I L Q := by
  refine x_aload_n 0 dL_faults_605 rfl rfl ?_
  refine x_bipush (v := (32 : Int32)) dL_faults_606 (by decide) ?_
  refine x_bipush (v := (49 : Int32)) dL_faults_608 (by decide) ?_
  refine x_bipush (v := (32 : Int32)) dL_faults_610 (by decide) ?_
  refine x_bipush (v := (49 : Int32)) dL_faults_612 (by decide) ?_
  exact xs_callS mL_says [.ref 0, .int (32 : Int32), .int (49 : Int32), .int (32 : Int32), .int (49 : Int32)] [] 5 _ rfl dL_faults_614 ml_L_25 qL_says rfl ⟨Nat.le_of_ble_eq_true rfl, Nat.le_of_ble_eq_true rfl⟩ ⟨rfl, rfl⟩ (Nat.le_of_ble_eq_true rfl) (Nat.le_of_ble_eq_true rfl) (K)
theorem bL_faults_617 {I : Nat → Nat → Int32} {L : Nat → Int64} {Q : Option Value → (Nat → Nat → Int32) → (Nat → Int64) → Prop} {v1 : Int64} {v3 : Int32} {v4 : Int32} {v5 : Int32}  (K : XS mL_faults 543 [(0, .ref 0), (1, .long v1), (3, .int v3), (4, .int v4), (5, .int (v5 + (1 : Int32)))] [] I L Q) : XS mL_faults 617 [(0, .ref 0), (1, .long v1), (3, .int v3), (4, .int v4), (5, .int v5)] [] I L Q := by
  refine x_iinc 4 (v5 + (1 : Int32)) [(0, .ref 0), (1, .long v1), (3, .int v3), (4, .int v4), (5, .int (v5 + (1 : Int32)))] dL_faults_617 rfl rfl (Nat.le_of_ble_eq_true rfl) rfl ?_
  exact x_goto 543 dL_faults_620 (by decide) (K)
theorem bL_faults_623 {I : Nat → Nat → Int32} {L : Nat → Int64} {Q : Option Value → (Nat → Nat → Int32) → (Nat → Int64) → Prop} {v1 : Int64} {v3 : Int32} {v4 : Int32}  (K1 : (v4 = 0) → XS mL_faults 654 [(0, .ref 0), (1, .long v1), (3, .int v3)] [] I L Q) (K2 : (¬ v4 = 0) → XS mL_faults 628 [(0, .ref 0), (1, .long v1), (3, .int v3)] [] I L Q) : XS mL_faults 623 [(0, .ref 0), (1, .long v1), (3, .int v3), (4, .int v4)] [] I L Q := by
  refine x_iload 3 dL_faults_623 rfl ?_
  exact x_if_eq 654 dL_faults_625 (by decide) (fun h => x_sub [0, 1, 2] rfl (K1 h)) (fun h => x_sub [0, 1, 2] rfl (K2 h))
theorem bL_faults_628 {I : Nat → Nat → Int32} {L : Nat → Int64} {Q : Option Value → (Nat → Nat → Int32) → (Nat → Int64) → Prop} {v1 : Int64} {v3 : Int32}  (K : XS mX9_count 0 [(0, .ref 0), (1, .int (12 : Int32))] [] I L (fun r I' L' => XS mL_faults 634 [(0, .ref 0), (1, .long v1), (3, .int v3)] (r.toList ++ []) I' L' Q)) : XS mL_faults 628 [(0, .ref 0), (1, .long v1), (3, .int v3)] [] I L Q := by
  refine x_aload_n 0 dL_faults_628 rfl rfl ?_
  refine x_bipush (v := (12 : Int32)) dL_faults_629 (by decide) ?_
  exact xs_callV mX9_count [.int (12 : Int32)] [] 0 9 1 _ rfl dL_faults_631 ml_L_39 qX9_count rfl ⟨Nat.le_of_ble_eq_true rfl, Nat.le_of_ble_eq_true rfl⟩ ⟨rfl, rfl⟩ (Nat.le_of_ble_eq_true rfl) sh_0 (by decide) rfl (Nat.le_of_ble_eq_true rfl) (K)
theorem bL_faults_634 {I : Nat → Nat → Int32} {L : Nat → Int64} {Q : Option Value → (Nat → Nat → Int32) → (Nat → Int64) → Prop} {v1 : Int64} {v3 : Int32} {s0 : Int32}  (K1 : (¬ s0 = (176 : Int32)) → XS mL_faults 654 [(0, .ref 0), (1, .long v1), (3, .int v3)] [] I L Q) (K2 : (s0 = (176 : Int32)) → XS mL_faults 640 [(0, .ref 0), (1, .long v1), (3, .int v3)] [] I L Q) : XS mL_faults 634 [(0, .ref 0), (1, .long v1), (3, .int v3)] [.int s0] I L Q := by
  refine x_sipush (v := (176 : Int32)) dL_faults_634 (by decide) ?_
  exact x_icmp_ne 654 dL_faults_637 (by decide) (fun h => K1 h) (fun h => K2 h)
theorem bL_faults_640 {I : Nat → Nat → Int32} {L : Nat → Int64} {Q : Option Value → (Nat → Nat → Int32) → (Nat → Int64) → Prop} {v1 : Int64} {v3 : Int32}  (K : XS mX9_fault 0 [(0, .ref 0)] [] I L (fun r I' L' => XS mL_faults 644 [(0, .ref 0), (1, .long v1), (3, .int v3)] (r.toList ++ []) I' L' Q)) : XS mL_faults 640 [(0, .ref 0), (1, .long v1), (3, .int v3)] [] I L Q := by
  refine x_aload_n 0 dL_faults_640 rfl rfl ?_
  exact xs_callV mX9_fault [] [] 0 9 0 _ rfl dL_faults_641 ml_L_33 qX9_fault rfl ⟨Nat.le_of_ble_eq_true rfl, Nat.le_of_ble_eq_true rfl⟩ ⟨rfl, rfl⟩ (Nat.le_of_ble_eq_true rfl) sh_0 (by decide) rfl (Nat.le_of_ble_eq_true rfl) (K)
theorem bL_faults_644 {I : Nat → Nat → Int32} {L : Nat → Int64} {Q : Option Value → (Nat → Nat → Int32) → (Nat → Int64) → Prop} {v1 : Int64} {v3 : Int32} {s0 : Int32}  (K1 : (¬ s0 = (171 : Int32)) → XS mL_faults 654 [(0, .ref 0), (1, .long v1), (3, .int v3)] [] I L Q) (K2 : (s0 = (171 : Int32)) → XS mL_faults 650 [(0, .ref 0), (1, .long v1), (3, .int v3)] [] I L Q) : XS mL_faults 644 [(0, .ref 0), (1, .long v1), (3, .int v3)] [.int s0] I L Q := by
  refine x_sipush (v := (171 : Int32)) dL_faults_644 (by decide) ?_
  exact x_icmp_ne 654 dL_faults_647 (by decide) (fun h => K1 h) (fun h => K2 h)
theorem bL_faults_650 {I : Nat → Nat → Int32} {L : Nat → Int64} {Q : Option Value → (Nat → Nat → Int32) → (Nat → Int64) → Prop} {v1 : Int64} {v3 : Int32}  (K : XS mL_faults 655 [(0, .ref 0), (1, .long v1), (3, .int v3)] [.int (1 : Int32)] I L Q) : XS mL_faults 650 [(0, .ref 0), (1, .long v1), (3, .int v3)] [] I L Q := by
  refine x_iconst (v := (1 : Int32)) dL_faults_650 (by decide) ?_
  exact x_goto 655 dL_faults_651 (by decide) (K)
theorem bL_faults_654 {I : Nat → Nat → Int32} {L : Nat → Int64} {Q : Option Value → (Nat → Nat → Int32) → (Nat → Int64) → Prop} {v1 : Int64} {v3 : Int32}  (K : XS mL_faults 655 [(0, .ref 0), (1, .long v1), (3, .int v3)] [.int (0 : Int32)] I L Q) : XS mL_faults 654 [(0, .ref 0), (1, .long v1), (3, .int v3)] [] I L Q := by
  refine x_iconst (v := (0 : Int32)) dL_faults_654 (by decide) ?_
  exact K
theorem bL_faults_655 {I : Nat → Nat → Int32} {L : Nat → Int64} {Q : Option Value → (Nat → Nat → Int32) → (Nat → Int64) → Prop} {v1 : Int64} {v3 : Int32} {s0 : Int32}  (K : XS mX9_erase 0 [(0, .ref 0)] [] I L (fun r I' L' => XS mL_faults 661 [(0, .ref 0), (1, .long v1), (3, .int v3), (4, .int s0)] (r.toList ++ []) I' L' Q)) : XS mL_faults 655 [(0, .ref 0), (1, .long v1), (3, .int v3)] [.int s0] I L Q := by
  refine x_istore [(0, .ref 0), (1, .long v1), (3, .int v3), (4, .int s0)] dL_faults_655 (Nat.le_of_ble_eq_true rfl) rfl ?_
  refine x_aload_n 0 dL_faults_657 rfl rfl ?_
  exact xs_callV mX9_erase [] [] 0 9 0 _ rfl dL_faults_658 ml_L_19 qX9_erase rfl ⟨Nat.le_of_ble_eq_true rfl, Nat.le_of_ble_eq_true rfl⟩ ⟨rfl, rfl⟩ (Nat.le_of_ble_eq_true rfl) sh_0 (by decide) rfl (Nat.le_of_ble_eq_true rfl) (K)
theorem bL_faults_661 {I : Nat → Nat → Int32} {L : Nat → Int64} {Q : Option Value → (Nat → Nat → Int32) → (Nat → Int64) → Prop} {v1 : Int64} {v3 : Int32} {v4 : Int32} {s0 : Int32}  (K1 : (v4 = 0) → XS mL_faults 712 [] [] I L Q) (K2 : (¬ v4 = 0) → XS mL_faults 667 [(0, .ref 0), (1, .long v1), (3, .int v3)] [] I L Q) : XS mL_faults 661 [(0, .ref 0), (1, .long v1), (3, .int v3), (4, .int v4)] [.int s0] I L Q := by
  refine x_pop dL_faults_661 rfl ?_
  refine x_iload 3 dL_faults_662 rfl ?_
  exact x_if_eq 712 dL_faults_664 (by decide) (fun h => x_sub [] rfl (K1 h)) (fun h => x_sub [0, 1, 2] rfl (K2 h))
theorem bL_faults_667 {I : Nat → Nat → Int32} {L : Nat → Int64} {Q : Option Value → (Nat → Nat → Int32) → (Nat → Int64) → Prop} {v1 : Int64} {v3 : Int32}  (K : XS mX9_write 0 [(0, .ref 0), (1, .int (256 : Int32))] [] I L (fun r I' L' => XS mL_faults 674 [(0, .ref 0), (1, .long v1), (3, .int v3)] (r.toList ++ []) I' L' Q)) : XS mL_faults 667 [(0, .ref 0), (1, .long v1), (3, .int v3)] [] I L Q := by
  refine x_aload_n 0 dL_faults_667 rfl rfl ?_
  refine x_sipush (v := (256 : Int32)) dL_faults_668 (by decide) ?_
  exact xs_callV mX9_write [.int (256 : Int32)] [] 0 9 1 _ rfl dL_faults_671 ml_L_43 qX9_write rfl ⟨Nat.le_of_ble_eq_true rfl, Nat.le_of_ble_eq_true rfl⟩ ⟨rfl, rfl⟩ (Nat.le_of_ble_eq_true rfl) sh_0 (by decide) rfl (Nat.le_of_ble_eq_true rfl) (K)
theorem bL_faults_674 {I : Nat → Nat → Int32} {L : Nat → Int64} {Q : Option Value → (Nat → Nat → Int32) → (Nat → Int64) → Prop} {v1 : Int64} {v3 : Int32} {s0 : Int32}  (K1 : (¬ s0 = (-3 : Int32)) → XS mL_faults 712 [] [] I L Q) (K2 : (s0 = (-3 : Int32)) → XS mL_faults 679 [(0, .ref 0), (1, .long v1), (3, .int v3)] [] I L Q) : XS mL_faults 674 [(0, .ref 0), (1, .long v1), (3, .int v3)] [.int s0] I L Q := by
  refine x_bipush (v := (-3 : Int32)) dL_faults_674 (by decide) ?_
  exact x_icmp_ne 712 dL_faults_676 (by decide) (fun h => x_sub [] rfl (K1 h)) (fun h => K2 h)
theorem bL_faults_679 {I : Nat → Nat → Int32} {L : Nat → Int64} {Q : Option Value → (Nat → Nat → Int32) → (Nat → Int64) → Prop} {v1 : Int64} {v3 : Int32}  (K : XS mX9_write 0 [(0, .ref 0), (1, .int (-1 : Int32))] [] I L (fun r I' L' => XS mL_faults 684 [(0, .ref 0), (1, .long v1), (3, .int v3)] (r.toList ++ []) I' L' Q)) : XS mL_faults 679 [(0, .ref 0), (1, .long v1), (3, .int v3)] [] I L Q := by
  refine x_aload_n 0 dL_faults_679 rfl rfl ?_
  refine x_iconst (v := (-1 : Int32)) dL_faults_680 (by decide) ?_
  exact xs_callV mX9_write [.int (-1 : Int32)] [] 0 9 1 _ rfl dL_faults_681 ml_L_43 qX9_write rfl ⟨Nat.le_of_ble_eq_true rfl, Nat.le_of_ble_eq_true rfl⟩ ⟨rfl, rfl⟩ (Nat.le_of_ble_eq_true rfl) sh_0 (by decide) rfl (Nat.le_of_ble_eq_true rfl) (K)
theorem bL_faults_684 {I : Nat → Nat → Int32} {L : Nat → Int64} {Q : Option Value → (Nat → Nat → Int32) → (Nat → Int64) → Prop} {v1 : Int64} {v3 : Int32} {s0 : Int32}  (K1 : (¬ s0 = (-3 : Int32)) → XS mL_faults 712 [] [] I L Q) (K2 : (s0 = (-3 : Int32)) → XS mL_faults 689 [(0, .ref 0), (1, .long v1), (3, .int v3)] [] I L Q) : XS mL_faults 684 [(0, .ref 0), (1, .long v1), (3, .int v3)] [.int s0] I L Q := by
  refine x_bipush (v := (-3 : Int32)) dL_faults_684 (by decide) ?_
  exact x_icmp_ne 712 dL_faults_686 (by decide) (fun h => x_sub [] rfl (K1 h)) (fun h => K2 h)
theorem bL_faults_689 {I : Nat → Nat → Int32} {L : Nat → Int64} {Q : Option Value → (Nat → Nat → Int32) → (Nat → Int64) → Prop} {v1 : Int64} {v3 : Int32}  (K : XS mL_whole 0 [(0, .ref 0)] [] I L (fun r I' L' => XS mL_faults 693 [(0, .ref 0), (1, .long v1), (3, .int v3)] (r.toList ++ []) I' L' Q)) : XS mL_faults 689 [(0, .ref 0), (1, .long v1), (3, .int v3)] [] I L Q := by
  refine x_aload_n 0 dL_faults_689 rfl rfl ?_
  exact xs_callS mL_whole [.ref 0] [] 1 _ rfl dL_faults_690 ml_L_68 qL_whole rfl ⟨Nat.le_of_ble_eq_true rfl, Nat.le_of_ble_eq_true rfl⟩ ⟨rfl, rfl⟩ (Nat.le_of_ble_eq_true rfl) (Nat.le_of_ble_eq_true rfl) (K)
theorem bL_faults_693 {I : Nat → Nat → Int32} {L : Nat → Int64} {Q : Option Value → (Nat → Nat → Int32) → (Nat → Int64) → Prop} {v1 : Int64} {v3 : Int32} {s0 : Int64}  (K1 : (¬ (lg_cmp s0 v1) = 0) → XS mL_faults 712 [] [] I L Q) (K2 : ((lg_cmp s0 v1) = 0) → XS mL_faults 698 [(0, .ref 0), (3, .int v3)] [] I L Q) : XS mL_faults 693 [(0, .ref 0), (1, .long v1), (3, .int v3)] [.long s0] I L Q := by
  refine x_lload_n 1 dL_faults_693 rfl rfl ?_
  refine x_lcmp dL_faults_694 ?_
  exact x_if_ne 712 dL_faults_695 (by decide) (fun h => x_sub [] rfl (K1 h)) (fun h => x_sub [0, 2] rfl (K2 h))
theorem bL_faults_698 {I : Nat → Nat → Int32} {L : Nat → Int64} {Q : Option Value → (Nat → Nat → Int32) → (Nat → Int64) → Prop} {v3 : Int32}  (K : XS mX9_count 0 [(0, .ref 0), (1, .int (11 : Int32))] [] I L (fun r I' L' => XS mL_faults 704 [(3, .int v3)] (r.toList ++ []) I' L' Q)) : XS mL_faults 698 [(0, .ref 0), (3, .int v3)] [] I L Q := by
  refine x_aload_n 0 dL_faults_698 rfl rfl ?_
  refine x_bipush (v := (11 : Int32)) dL_faults_699 (by decide) ?_
  refine x_sub [1] rfl ?_
  exact xs_callV mX9_count [.int (11 : Int32)] [] 0 9 1 _ rfl dL_faults_701 ml_L_39 qX9_count rfl ⟨Nat.le_of_ble_eq_true rfl, Nat.le_of_ble_eq_true rfl⟩ ⟨rfl, rfl⟩ (Nat.le_of_ble_eq_true rfl) sh_0 (by decide) rfl (Nat.le_of_ble_eq_true rfl) (K)
theorem bL_faults_704 {I : Nat → Nat → Int32} {L : Nat → Int64} {Q : Option Value → (Nat → Nat → Int32) → (Nat → Int64) → Prop} {v3 : Int32} {s0 : Int32}  (K1 : (¬ s0 = v3) → XS mL_faults 712 [] [] I L Q) (K2 : (s0 = v3) → XS mL_faults 708 [] [] I L Q) : XS mL_faults 704 [(3, .int v3)] [.int s0] I L Q := by
  refine x_iload_n 0 dL_faults_704 rfl rfl ?_
  exact x_icmp_ne 712 dL_faults_705 (by decide) (fun h => x_sub [] rfl (K1 h)) (fun h => x_sub [] rfl (K2 h))
theorem bL_faults_708 {I : Nat → Nat → Int32} {L : Nat → Int64} {Q : Option Value → (Nat → Nat → Int32) → (Nat → Int64) → Prop}   (K : XS mL_faults 713 [] [.int (1 : Int32)] I L Q) : XS mL_faults 708 [] [] I L Q := by
  refine x_iconst (v := (1 : Int32)) dL_faults_708 (by decide) ?_
  exact x_goto 713 dL_faults_709 (by decide) (K)
theorem bL_faults_712 {I : Nat → Nat → Int32} {L : Nat → Int64} {Q : Option Value → (Nat → Nat → Int32) → (Nat → Int64) → Prop}   (K : XS mL_faults 713 [] [.int (0 : Int32)] I L Q) : XS mL_faults 712 [] [] I L Q := by
  refine x_iconst (v := (0 : Int32)) dL_faults_712 (by decide) ?_
  exact K
theorem bL_faults_713 {I : Nat → Nat → Int32} {L : Nat → Int64} {Q : Option Value → (Nat → Nat → Int32) → (Nat → Int64) → Prop} {s0 : Int32} (hz1 : s0 = 0 ∨ s0 = 1) (K : Q (some (.int s0)) I L) : XS mL_faults 713 [] [.int s0] I L Q := by
  exact xs_iret dL_faults_713 rfl (x_nar _ hz1) K
