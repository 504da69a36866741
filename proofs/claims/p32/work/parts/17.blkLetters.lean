/-! ===== blocks ===== -/
theorem bX1_forgetAll_0 {I : Nat → Nat → Int32} {L : Nat → Int64} {Q : Option Value → (Nat → Nat → Int32) → (Nat → Int64) → Prop}   (K : Q none (x_up (x_up (x_up (x_up (x_up (x_up I 2758 0 (0 : Int32)) 2759 0 (0 : Int32)) 2760 0 (0 : Int32)) 2761 0 (0 : Int32)) 2762 0 (0 : Int32)) 3009 0 (0 : Int32)) L) : XS mX1_forgetAll 0 [(0, .ref 43)] [] I L Q := by
  refine x_aload_n 0 dX1_forgetAll_0 rfl rfl ?_
  refine x_iconst (v := (0 : Int32)) dX1_forgetAll_1 (by decide) ?_
  refine xs_puti 2758 dX1_forgetAll_2 fl_X1_31 sh_43 rfl rfl rfl ?_
  refine x_aload_n 0 dX1_forgetAll_5 rfl rfl ?_
  refine x_iconst (v := (0 : Int32)) dX1_forgetAll_6 (by decide) ?_
  refine xs_puti 2759 dX1_forgetAll_7 fl_X1_34 sh_43 rfl rfl rfl ?_
  refine x_aload_n 0 dX1_forgetAll_10 rfl rfl ?_
  refine x_iconst (v := (0 : Int32)) dX1_forgetAll_11 (by decide) ?_
  refine xs_puti 2760 dX1_forgetAll_12 fl_X1_37 sh_43 rfl rfl rfl ?_
  refine x_aload_n 0 dX1_forgetAll_15 rfl rfl ?_
  refine x_iconst (v := (0 : Int32)) dX1_forgetAll_16 (by decide) ?_
  refine xs_puti 2761 dX1_forgetAll_17 fl_X1_40 sh_43 rfl rfl rfl ?_
  refine x_aload_n 0 dX1_forgetAll_20 rfl rfl ?_
  refine x_iconst (v := (0 : Int32)) dX1_forgetAll_21 (by decide) ?_
  refine xs_putz 2762 dX1_forgetAll_22 fl_X1_43 sh_43 rfl (Or.inl rfl) rfl rfl ?_
  refine x_aload_n 0 dX1_forgetAll_25 rfl rfl ?_
  refine xs_getr dX1_forgetAll_26 fl_X1_23 sh_43 rfl rf_2756 ?_
  refine x_iconst (v := (0 : Int32)) dX1_forgetAll_29 (by decide) ?_
  refine xs_puti 3009 dX1_forgetAll_30 fl_X1_59 sh_47 rfl rfl rfl ?_
  exact xs_end dX1_forgetAll_33 rfl K
theorem bX1_hops_0 {I : Nat → Nat → Int32} {L : Nat → Int64} {Q : Option Value → (Nat → Nat → Int32) → (Nat → Int64) → Prop}   (K : Q (some (.int ((I 3009 0) - (1 : Int32)))) I L) : XS mX1_hops 0 [(0, .ref 43)] [] I L Q := by
  refine x_aload_n 0 dX1_hops_0 rfl rfl ?_
  refine xs_getr dX1_hops_1 fl_X1_23 sh_43 rfl rf_2756 ?_
  refine xs_geti 3009 dX1_hops_4 fl_X1_59 sh_47 rfl rfl ?_
  refine x_iconst (v := (1 : Int32)) dX1_hops_7 (by decide) ?_
  refine x_isub dX1_hops_8 ?_
  exact xs_iret dX1_hops_9 rfl rfl K
theorem bX1_tally_0 {I : Nat → Nat → Int32} {L : Nat → Int64} {Q : Option Value → (Nat → Nat → Int32) → (Nat → Int64) → Prop} {v1 : Int32}  (Kd : (v1.toInt < 6 ∨ 13 < v1.toInt) → XS mX1_tally 86 [] [] I L Q) (K0 : (v1 = 6) → XS mX1_tally 48 [(0, .ref 43)] [] I L Q) (K1 : (v1 = 7) → XS mX1_tally 53 [(0, .ref 43)] [] I L Q) (K2 : (v1 = 8) → XS mX1_tally 58 [(0, .ref 43)] [] I L Q) (K3 : (v1 = 9) → XS mX1_tally 63 [(0, .ref 43)] [] I L Q) (K4 : (v1 = 10) → XS mX1_tally 68 [(0, .ref 43)] [] I L Q) (K5 : (v1 = 11) → XS mX1_tally 86 [] [] I L Q) (K6 : (v1 = 12) → XS mX1_tally 86 [] [] I L Q) (K7 : (v1 = 13) → XS mX1_tally 73 [(0, .ref 43)] [] I L Q) : XS mX1_tally 0 [(0, .ref 43), (1, .int v1)] [] I L Q := by
  refine x_iload_n 1 dX1_tally_0 rfl rfl ?_
  by_cases g1 : v1.toInt < 6
  · exact x_swOut 86 dX1_tally_1 (Or.inl g1) (by decide) (x_sub [] rfl (Kd (Or.inl g1)))
  by_cases g2 : 13 < v1.toInt
  · exact x_swOut 86 dX1_tally_1 (Or.inr g2) (by decide) (x_sub [] rfl (Kd (Or.inr g2)))
  obtain ⟨k, hk, e⟩ := x_swcase (x := v1) 6 7 g1 (by omega)
  rcases (show k = 0 ∨ k = 1 ∨ k = 2 ∨ k = 3 ∨ k = 4 ∨ k = 5 ∨ k = 6 ∨ k = 7 by omega) with rfl | rfl | rfl | rfl | rfl | rfl | rfl | rfl
  · exact x_swIn 48 dX1_tally_1 g1 g2 (by rw [e]; rfl) (by decide) (x_sub [0] rfl (K0 (x_toI 6 e rfl)))
  · exact x_swIn 53 dX1_tally_1 g1 g2 (by rw [e]; rfl) (by decide) (x_sub [0] rfl (K1 (x_toI 7 e rfl)))
  · exact x_swIn 58 dX1_tally_1 g1 g2 (by rw [e]; rfl) (by decide) (x_sub [0] rfl (K2 (x_toI 8 e rfl)))
  · exact x_swIn 63 dX1_tally_1 g1 g2 (by rw [e]; rfl) (by decide) (x_sub [0] rfl (K3 (x_toI 9 e rfl)))
  · exact x_swIn 68 dX1_tally_1 g1 g2 (by rw [e]; rfl) (by decide) (x_sub [0] rfl (K4 (x_toI 10 e rfl)))
  · exact x_swIn 86 dX1_tally_1 g1 g2 (by rw [e]; rfl) (by decide) (x_sub [] rfl (K5 (x_toI 11 e rfl)))
  · exact x_swIn 86 dX1_tally_1 g1 g2 (by rw [e]; rfl) (by decide) (x_sub [] rfl (K6 (x_toI 12 e rfl)))
  · exact x_swIn 73 dX1_tally_1 g1 g2 (by rw [e]; rfl) (by decide) (x_sub [0] rfl (K7 (x_toI 13 e rfl)))
theorem bX1_tally_48 {I : Nat → Nat → Int32} {L : Nat → Int64} {Q : Option Value → (Nat → Nat → Int32) → (Nat → Int64) → Prop}   (K : Q (some (.int (I 2757 0))) I L) : XS mX1_tally 48 [(0, .ref 43)] [] I L Q := by
  refine x_aload_n 0 dX1_tally_48 rfl rfl ?_
  refine xs_geti 2757 dX1_tally_49 fl_X1_27 sh_43 rfl rfl ?_
  exact xs_iret dX1_tally_52 rfl rfl K
theorem bX1_tally_53 {I : Nat → Nat → Int32} {L : Nat → Int64} {Q : Option Value → (Nat → Nat → Int32) → (Nat → Int64) → Prop}   (K : Q (some (.int (I 2758 0))) I L) : XS mX1_tally 53 [(0, .ref 43)] [] I L Q := by
  refine x_aload_n 0 dX1_tally_53 rfl rfl ?_
  refine xs_geti 2758 dX1_tally_54 fl_X1_31 sh_43 rfl rfl ?_
  exact xs_iret dX1_tally_57 rfl rfl K
theorem bX1_tally_58 {I : Nat → Nat → Int32} {L : Nat → Int64} {Q : Option Value → (Nat → Nat → Int32) → (Nat → Int64) → Prop}   (K : Q (some (.int (I 2759 0))) I L) : XS mX1_tally 58 [(0, .ref 43)] [] I L Q := by
  refine x_aload_n 0 dX1_tally_58 rfl rfl ?_
  refine xs_geti 2759 dX1_tally_59 fl_X1_34 sh_43 rfl rfl ?_
  exact xs_iret dX1_tally_62 rfl rfl K
theorem bX1_tally_63 {I : Nat → Nat → Int32} {L : Nat → Int64} {Q : Option Value → (Nat → Nat → Int32) → (Nat → Int64) → Prop}   (K : Q (some (.int (I 2760 0))) I L) : XS mX1_tally 63 [(0, .ref 43)] [] I L Q := by
  refine x_aload_n 0 dX1_tally_63 rfl rfl ?_
  refine xs_geti 2760 dX1_tally_64 fl_X1_37 sh_43 rfl rfl ?_
  exact xs_iret dX1_tally_67 rfl rfl K
theorem bX1_tally_68 {I : Nat → Nat → Int32} {L : Nat → Int64} {Q : Option Value → (Nat → Nat → Int32) → (Nat → Int64) → Prop}   (K : Q (some (.int (I 2761 0))) I L) : XS mX1_tally 68 [(0, .ref 43)] [] I L Q := by
  refine x_aload_n 0 dX1_tally_68 rfl rfl ?_
  refine xs_geti 2761 dX1_tally_69 fl_X1_40 sh_43 rfl rfl ?_
  exact xs_iret dX1_tally_72 rfl rfl K
theorem bX1_tally_73 {I : Nat → Nat → Int32} {L : Nat → Int64} {Q : Option Value → (Nat → Nat → Int32) → (Nat → Int64) → Prop}   (K1 : ((I 2762 0) = 0) → XS mX1_tally 84 [] [] I L Q) (K2 : (¬ (I 2762 0) = 0) → XS mX1_tally 80 [] [] I L Q) : XS mX1_tally 73 [(0, .ref 43)] [] I L Q := by
  refine x_aload_n 0 dX1_tally_73 rfl rfl ?_
  refine xs_geti 2762 dX1_tally_74 fl_X1_43 sh_43 rfl rfl ?_
  exact x_if_eq 84 dX1_tally_77 (by decide) (fun h => x_sub [] rfl (K1 h)) (fun h => x_sub [] rfl (K2 h))
theorem bX1_tally_80 {I : Nat → Nat → Int32} {L : Nat → Int64} {Q : Option Value → (Nat → Nat → Int32) → (Nat → Int64) → Prop}   (K : XS mX1_tally 85 [] [.int (1 : Int32)] I L Q) : XS mX1_tally 80 [] [] I L Q := by
  refine x_iconst (v := (1 : Int32)) dX1_tally_80 (by decide) ?_
  exact x_goto 85 dX1_tally_81 (by decide) (K)
theorem bX1_tally_84 {I : Nat → Nat → Int32} {L : Nat → Int64} {Q : Option Value → (Nat → Nat → Int32) → (Nat → Int64) → Prop}   (K : XS mX1_tally 85 [] [.int (0 : Int32)] I L Q) : XS mX1_tally 84 [] [] I L Q := by
  refine x_iconst (v := (0 : Int32)) dX1_tally_84 (by decide) ?_
  exact K
theorem bX1_tally_85 {I : Nat → Nat → Int32} {L : Nat → Int64} {Q : Option Value → (Nat → Nat → Int32) → (Nat → Int64) → Prop} {s0 : Int32}  (K : Q (some (.int s0)) I L) : XS mX1_tally 85 [] [.int s0] I L Q := by
  exact xs_iret dX1_tally_85 rfl rfl K
theorem bX1_tally_86 {I : Nat → Nat → Int32} {L : Nat → Int64} {Q : Option Value → (Nat → Nat → Int32) → (Nat → Int64) → Prop}   (K : Q (some (.int (-3 : Int32))) I L) : XS mX1_tally 86 [] [] I L Q := by
  refine x_bipush (v := (-3 : Int32)) dX1_tally_86 (by decide) ?_
  exact xs_iret dX1_tally_88 rfl rfl K
theorem bX1_start_0 {I : Nat → Nat → Int32} {L : Nat → Int64} {Q : Option Value → (Nat → Nat → Int32) → (Nat → Int64) → Prop} {v1 : Int32} {a2 : Nat}  (K : XS mX7_putOnTop 0 [(0, .ref 44), (1, .ref a2)] [] (x_up I 2818 0 (0 : Int32)) L (fun r I' L' => XS mX1_start 16 [(0, .ref 43), (1, .int v1)] (r.toList ++ []) I' L' Q)) : XS mX1_start 0 [(0, .ref 43), (1, .int v1), (2, .ref a2)] [] I L Q := by
  refine x_aload_n 0 dX1_start_0 rfl rfl ?_
  refine xs_getr dX1_start_1 fl_X1_14 sh_43 rfl rf_2755 ?_
  refine x_iconst (v := (0 : Int32)) dX1_start_4 (by decide) ?_
  refine xs_puti 2818 dX1_start_5 fl_X1_62 sh_44 rfl rfl rfl ?_
  refine x_aload_n 0 dX1_start_8 rfl rfl ?_
  refine xs_getr dX1_start_9 fl_X1_14 sh_43 rfl rf_2755 ?_
  refine x_aload_n 2 dX1_start_12 rfl rfl ?_
  refine x_sub [0, 1] rfl ?_
  exact xs_callV mX7_putOnTop [.ref a2] [] 44 7 1 _ rfl dX1_start_13 ml_X1_65 qX7_putOnTop rfl ⟨Nat.le_of_ble_eq_true rfl, Nat.le_of_ble_eq_true rfl⟩ ⟨rfl, rfl⟩ (Nat.le_of_ble_eq_true rfl) sh_44 (by decide) rfl (Nat.le_of_ble_eq_true rfl) (K)
theorem bX1_start_16 {I : Nat → Nat → Int32} {L : Nat → Int64} {Q : Option Value → (Nat → Nat → Int32) → (Nat → Int64) → Prop} {v1 : Int32}  (K : XS mX6_put 0 [(0, .ref 47), (1, .int v1)] [] (x_up I 3009 0 (0 : Int32)) L (fun r I' L' => XS mX1_start 32 [(0, .ref 43)] (r.toList ++ []) I' L' Q)) : XS mX1_start 16 [(0, .ref 43), (1, .int v1)] [] I L Q := by
  refine x_aload_n 0 dX1_start_16 rfl rfl ?_
  refine xs_getr dX1_start_17 fl_X1_23 sh_43 rfl rf_2756 ?_
  refine x_iconst (v := (0 : Int32)) dX1_start_20 (by decide) ?_
  refine xs_puti 3009 dX1_start_21 fl_X1_59 sh_47 rfl rfl rfl ?_
  refine x_aload_n 0 dX1_start_24 rfl rfl ?_
  refine xs_getr dX1_start_25 fl_X1_23 sh_43 rfl rf_2756 ?_
  refine x_iload_n 1 dX1_start_28 rfl rfl ?_
  refine x_sub [0] rfl ?_
  exact xs_callV mX6_put [.int v1] [] 47 6 1 _ rfl dX1_start_29 ml_X1_69 qX6_put rfl ⟨Nat.le_of_ble_eq_true rfl, Nat.le_of_ble_eq_true rfl⟩ ⟨rfl, rfl⟩ (Nat.le_of_ble_eq_true rfl) sh_47 (by decide) rfl (Nat.le_of_ble_eq_true rfl) (K)
theorem bX1_start_32 {I : Nat → Nat → Int32} {L : Nat → Int64} {Q : Option Value → (Nat → Nat → Int32) → (Nat → Int64) → Prop}   (K : Q none (x_up (x_up I 2762 0 (0 : Int32)) 2758 0 (((x_up I 2762 0 (0 : Int32)) 2758 0) + (1 : Int32))) L) : XS mX1_start 32 [(0, .ref 43)] [] I L Q := by
  refine x_aload_n 0 dX1_start_32 rfl rfl ?_
  refine x_iconst (v := (0 : Int32)) dX1_start_33 (by decide) ?_
  refine xs_putz 2762 dX1_start_34 fl_X1_43 sh_43 rfl (Or.inl rfl) rfl rfl ?_
  refine x_aload_n 0 dX1_start_37 rfl rfl ?_
  refine x_dup dX1_start_38 rfl ?_
  refine xs_geti 2758 dX1_start_39 fl_X1_31 sh_43 rfl rfl ?_
  refine x_iconst (v := (1 : Int32)) dX1_start_42 (by decide) ?_
  refine x_iadd dX1_start_43 ?_
  refine xs_puti 2758 dX1_start_44 fl_X1_31 sh_43 rfl rfl rfl ?_
  exact xs_end dX1_start_47 rfl K
theorem bX1_noteEnd_0 {I : Nat → Nat → Int32} {L : Nat → Int64} {Q : Option Value → (Nat → Nat → Int32) → (Nat → Int64) → Prop} {v1 : Int32}  (K1 : (v1 < 0) → XS mX1_noteEnd 17 [(0, .ref 43)] [] I L Q) (K2 : (¬ v1 < 0) → XS mX1_noteEnd 4 [(0, .ref 43)] [] I L Q) : XS mX1_noteEnd 0 [(0, .ref 43), (1, .int v1)] [] I L Q := by
  refine x_iload_n 1 dX1_noteEnd_0 rfl rfl ?_
  exact x_if_lt 17 dX1_noteEnd_1 (by decide) (fun h => x_sub [0] rfl (K1 h)) (fun h => x_sub [0] rfl (K2 h))
theorem bX1_noteEnd_4 {I : Nat → Nat → Int32} {L : Nat → Int64} {Q : Option Value → (Nat → Nat → Int32) → (Nat → Int64) → Prop}   (K : XS mX1_noteEnd 27 [] [] (x_up I 2759 0 ((I 2759 0) + (1 : Int32))) L Q) : XS mX1_noteEnd 4 [(0, .ref 43)] [] I L Q := by
  refine x_aload_n 0 dX1_noteEnd_4 rfl rfl ?_
  refine x_dup dX1_noteEnd_5 rfl ?_
  refine xs_geti 2759 dX1_noteEnd_6 fl_X1_34 sh_43 rfl rfl ?_
  refine x_iconst (v := (1 : Int32)) dX1_noteEnd_9 (by decide) ?_
  refine x_iadd dX1_noteEnd_10 ?_
  refine xs_puti 2759 dX1_noteEnd_11 fl_X1_34 sh_43 rfl rfl rfl ?_
  exact x_goto 27 dX1_noteEnd_14 (by decide) (x_sub [] rfl (K))
theorem bX1_noteEnd_17 {I : Nat → Nat → Int32} {L : Nat → Int64} {Q : Option Value → (Nat → Nat → Int32) → (Nat → Int64) → Prop}   (K : XS mX1_noteEnd 27 [] [] (x_up I 2761 0 ((I 2761 0) + (1 : Int32))) L Q) : XS mX1_noteEnd 17 [(0, .ref 43)] [] I L Q := by
  refine x_aload_n 0 dX1_noteEnd_17 rfl rfl ?_
  refine x_dup dX1_noteEnd_18 rfl ?_
  refine xs_geti 2761 dX1_noteEnd_19 fl_X1_40 sh_43 rfl rfl ?_
  refine x_iconst (v := (1 : Int32)) dX1_noteEnd_22 (by decide) ?_
  refine x_iadd dX1_noteEnd_23 ?_
  refine xs_puti 2761 dX1_noteEnd_24 fl_X1_40 sh_43 rfl rfl rfl ?_
  exact x_sub [] rfl (K)
theorem bX1_noteEnd_27 {I : Nat → Nat → Int32} {L : Nat → Int64} {Q : Option Value → (Nat → Nat → Int32) → (Nat → Int64) → Prop}   (K : Q none I L) : XS mX1_noteEnd 27 [] [] I L Q := by
  exact xs_end dX1_noteEnd_27 rfl K
theorem bX1_carry_0 {I : Nat → Nat → Int32} {L : Nat → Int64} {Q : Option Value → (Nat → Nat → Int32) → (Nat → Int64) → Prop} {v1 : Int32}  (K : XS mX1_carry 4 [(0, .ref 43), (2, .int v1), (3, .int (0 : Int32))] [] I L Q) : XS mX1_carry 0 [(0, .ref 43), (1, .int v1)] [] I L Q := by
  refine x_iload_n 1 dX1_carry_0 rfl rfl ?_
  refine x_istore_n [(0, .ref 43), (1, .int v1), (2, .int v1)] dX1_carry_1 rfl (Nat.le_of_ble_eq_true rfl) rfl ?_
  refine x_iconst (v := (0 : Int32)) dX1_carry_2 (by decide) ?_
  refine x_istore_n [(0, .ref 43), (1, .int v1), (2, .int v1), (3, .int (0 : Int32))] dX1_carry_3 rfl (Nat.le_of_ble_eq_true rfl) rfl ?_
  exact x_sub [0, 2, 3] rfl (K)
theorem bX1_carry_4 {I : Nat → Nat → Int32} {L : Nat → Int64} {Q : Option Value → (Nat → Nat → Int32) → (Nat → Int64) → Prop} {v2 : Int32} {v3 : Int32}  (K1 : ((22 : Int32) ≤ v3) → XS mX1_carry 96 [] [] I L Q) (K2 : (¬ (22 : Int32) ≤ v3) → XS mX1_carry 10 [(0, .ref 43), (2, .int v2), (3, .int v3)] [] I L Q) : XS mX1_carry 4 [(0, .ref 43), (2, .int v2), (3, .int v3)] [] I L Q := by
  refine x_iload_n 2 dX1_carry_4 rfl rfl ?_
  refine x_bipush (v := (22 : Int32)) dX1_carry_5 (by decide) ?_
  exact x_icmp_ge 96 dX1_carry_7 (by decide) (fun h => x_sub [] rfl (K1 h)) (fun h => K2 h)
theorem bX1_carry_10 {I : Nat → Nat → Int32} {L : Nat → Int64} {Q : Option Value → (Nat → Nat → Int32) → (Nat → Int64) → Prop} {v2 : Int32} {v3 : Int32}  (K : XS mX1_takeOffReached 0 [(0, .ref 43), (1, .int v2)] [] I L (fun r I' L' => XS mX1_carry 15 [(0, .ref 43), (2, .int v2), (3, .int v3)] (r.toList ++ []) I' L' Q)) : XS mX1_carry 10 [(0, .ref 43), (2, .int v2), (3, .int v3)] [] I L Q := by
  refine x_aload_n 0 dX1_carry_10 rfl rfl ?_
  refine x_iload_n 1 dX1_carry_11 rfl rfl ?_
  exact xs_callV mX1_takeOffReached [.int v2] [] 43 1 1 _ rfl dX1_carry_12 ml_X1_72 qX1_takeOffReached rfl ⟨Nat.le_of_ble_eq_true rfl, Nat.le_of_ble_eq_true rfl⟩ ⟨rfl, rfl⟩ (Nat.le_of_ble_eq_true rfl) sh_43 (by decide) rfl (Nat.le_of_ble_eq_true rfl) (K)
theorem bX1_carry_15 {I : Nat → Nat → Int32} {L : Nat → Int64} {Q : Option Value → (Nat → Nat → Int32) → (Nat → Int64) → Prop} {v2 : Int32} {v3 : Int32}  (K1 : (¬ (I 2818 0) = 0) → XS mX1_carry 27 [(0, .ref 43), (2, .int v2), (3, .int v3)] [] I L Q) (K2 : ((I 2818 0) = 0) → XS mX1_carry 25 [(2, .int v2)] [] I L Q) : XS mX1_carry 15 [(0, .ref 43), (2, .int v2), (3, .int v3)] [] I L Q := by
  refine x_aload_n 0 dX1_carry_15 rfl rfl ?_
  refine xs_getr dX1_carry_16 fl_X1_14 sh_43 rfl rf_2755 ?_
  refine xs_geti 2818 dX1_carry_19 fl_X1_62 sh_44 rfl rfl ?_
  exact x_if_ne 27 dX1_carry_22 (by decide) (fun h => K1 h) (fun h => x_sub [1] rfl (K2 h))
theorem bX1_carry_25 {I : Nat → Nat → Int32} {L : Nat → Int64} {Q : Option Value → (Nat → Nat → Int32) → (Nat → Int64) → Prop} {v2 : Int32}  (K : Q (some (.int v2)) I L) : XS mX1_carry 25 [(2, .int v2)] [] I L Q := by
  refine x_iload_n 0 dX1_carry_25 rfl rfl ?_
  exact xs_iret dX1_carry_26 rfl rfl K
theorem bX1_carry_27 {I : Nat → Nat → Int32} {L : Nat → Int64} {Q : Option Value → (Nat → Nat → Int32) → (Nat → Int64) → Prop} {v2 : Int32} {v3 : Int32}  (K : XS mX1_hops 0 [(0, .ref 43)] [] I L (fun r I' L' => XS mX1_carry 31 [(0, .ref 43), (2, .int v2), (3, .int v3)] (r.toList ++ []) I' L' Q)) : XS mX1_carry 27 [(0, .ref 43), (2, .int v2), (3, .int v3)] [] I L Q := by
  refine x_aload_n 0 dX1_carry_27 rfl rfl ?_
  exact xs_callV mX1_hops [] [] 43 1 0 _ rfl dX1_carry_28 ml_X1_75 qX1_hops rfl ⟨Nat.le_of_ble_eq_true rfl, Nat.le_of_ble_eq_true rfl⟩ ⟨rfl, rfl⟩ (Nat.le_of_ble_eq_true rfl) sh_43 (by decide) rfl (Nat.le_of_ble_eq_true rfl) (K)
theorem bX1_carry_31 {I : Nat → Nat → Int32} {L : Nat → Int64} {Q : Option Value → (Nat → Nat → Int32) → (Nat → Int64) → Prop} {v2 : Int32} {v3 : Int32} {s0 : Int32}  (K1 : (s0 < (20 : Int32)) → XS mX1_carry 39 [(0, .ref 43), (2, .int v2), (3, .int v3)] [] I L Q) (K2 : (¬ s0 < (20 : Int32)) → XS mX1_carry 36 [] [] I L Q) : XS mX1_carry 31 [(0, .ref 43), (2, .int v2), (3, .int v3)] [.int s0] I L Q := by
  refine x_bipush (v := (20 : Int32)) dX1_carry_31 (by decide) ?_
  exact x_icmp_lt 39 dX1_carry_33 (by decide) (fun h => K1 h) (fun h => x_sub [] rfl (K2 h))
theorem bX1_carry_36 {I : Nat → Nat → Int32} {L : Nat → Int64} {Q : Option Value → (Nat → Nat → Int32) → (Nat → Int64) → Prop}   (K : Q (some (.int (-14 : Int32))) I L) : XS mX1_carry 36 [] [] I L Q := by
  refine x_bipush (v := (-14 : Int32)) dX1_carry_36 (by decide) ?_
  exact xs_iret dX1_carry_38 rfl rfl K
theorem bX1_carry_39 {I : Nat → Nat → Int32} {L : Nat → Int64} {Q : Option Value → (Nat → Nat → Int32) → (Nat → Int64) → Prop} {v2 : Int32} {v3 : Int32}  (K : XS mX1_linkAhead 0 [(0, .ref 43), (1, .int v2)] [] I L (fun r I' L' => XS mX1_carry 44 [(0, .ref 43), (2, .int v2), (3, .int v3)] (r.toList ++ []) I' L' Q)) : XS mX1_carry 39 [(0, .ref 43), (2, .int v2), (3, .int v3)] [] I L Q := by
  refine x_aload_n 0 dX1_carry_39 rfl rfl ?_
  refine x_iload_n 1 dX1_carry_40 rfl rfl ?_
  exact xs_callV mX1_linkAhead [.int v2] [] 43 1 1 _ rfl dX1_carry_41 ml_X1_79 qX1_linkAhead rfl ⟨Nat.le_of_ble_eq_true rfl, Nat.le_of_ble_eq_true rfl⟩ ⟨rfl, rfl⟩ (Nat.le_of_ble_eq_true rfl) sh_43 (by decide) rfl (Nat.le_of_ble_eq_true rfl) (K)
theorem bX1_carry_44 {I : Nat → Nat → Int32} {L : Nat → Int64} {Q : Option Value → (Nat → Nat → Int32) → (Nat → Int64) → Prop} {v2 : Int32} {v3 : Int32} {s0 : Int32}  (K1 : (0 ≤ s0) → XS mX1_carry 54 [(0, .ref 43), (2, .int v2), (3, .int v3), (4, .int s0)] [] I L Q) (K2 : (¬ 0 ≤ s0) → XS mX1_carry 51 [(4, .int s0)] [] I L Q) : XS mX1_carry 44 [(0, .ref 43), (2, .int v2), (3, .int v3)] [.int s0] I L Q := by
  refine x_istore [(0, .ref 43), (2, .int v2), (3, .int v3), (4, .int s0)] dX1_carry_44 (Nat.le_of_ble_eq_true rfl) rfl ?_
  refine x_iload 3 dX1_carry_46 rfl ?_
  exact x_if_ge 54 dX1_carry_48 (by decide) (fun h => K1 h) (fun h => x_sub [3] rfl (K2 h))
theorem bX1_carry_51 {I : Nat → Nat → Int32} {L : Nat → Int64} {Q : Option Value → (Nat → Nat → Int32) → (Nat → Int64) → Prop} {v4 : Int32}  (K : Q (some (.int v4)) I L) : XS mX1_carry 51 [(4, .int v4)] [] I L Q := by
  refine x_iload 0 dX1_carry_51 rfl ?_
  exact xs_iret dX1_carry_53 rfl rfl K
theorem bX1_carry_54 {I : Nat → Nat → Int32} {L : Nat → Int64} {Q : Option Value → (Nat → Nat → Int32) → (Nat → Int64) → Prop} {v2 : Int32} {v3 : Int32} {v4 : Int32}  (K : XS mX2_isUp 0 [(0, .ref 1), (1, .int v4)] [] I L (fun r I' L' => XS mX1_carry 63 [(0, .ref 43), (2, .int v2), (3, .int v3), (4, .int v4)] (r.toList ++ []) I' L' Q)) : XS mX1_carry 54 [(0, .ref 43), (2, .int v2), (3, .int v3), (4, .int v4)] [] I L Q := by
  refine x_aload_n 0 dX1_carry_54 rfl rfl ?_
  refine xs_getr dX1_carry_55 fl_X1_47 sh_43 rfl rf_2752 ?_
  refine x_iload 3 dX1_carry_58 rfl ?_
  exact xs_callV mX2_isUp [.int v4] [] 1 2 1 _ rfl dX1_carry_60 ml_X1_83 qX2_isUp rfl ⟨Nat.le_of_ble_eq_true rfl, Nat.le_of_ble_eq_true rfl⟩ ⟨rfl, rfl⟩ (Nat.le_of_ble_eq_true rfl) sh_1 (by decide) rfl (Nat.le_of_ble_eq_true rfl) (K)
theorem bX1_carry_63 {I : Nat → Nat → Int32} {L : Nat → Int64} {Q : Option Value → (Nat → Nat → Int32) → (Nat → Int64) → Prop} {v2 : Int32} {v3 : Int32} {v4 : Int32} {s0 : Int32}  (K1 : (s0 = 0) → XS mX1_carry 77 [(0, .ref 43), (2, .int v2), (3, .int v3), (4, .int v4)] [] I L Q) (K2 : (¬ s0 = 0) → XS mX1_carry 66 [(0, .ref 43), (2, .int v2), (3, .int v3), (4, .int v4)] [] I L Q) : XS mX1_carry 63 [(0, .ref 43), (2, .int v2), (3, .int v3), (4, .int v4)] [.int s0] I L Q := by
  exact x_if_eq 77 dX1_carry_63 (by decide) (fun h => K1 h) (fun h => K2 h)
theorem bX1_carry_66 {I : Nat → Nat → Int32} {L : Nat → Int64} {Q : Option Value → (Nat → Nat → Int32) → (Nat → Int64) → Prop} {v2 : Int32} {v3 : Int32} {v4 : Int32}  (K : XS mX1_crossLink 0 [(0, .ref 43), (1, .int v4), (2, .int v2)] [] I L (fun r I' L' => XS mX1_carry 73 [(0, .ref 43), (3, .int v3)] (r.toList ++ []) I' L' Q)) : XS mX1_carry 66 [(0, .ref 43), (2, .int v2), (3, .int v3), (4, .int v4)] [] I L Q := by
  refine x_aload_n 0 dX1_carry_66 rfl rfl ?_
  refine x_iload 3 dX1_carry_67 rfl ?_
  refine x_iload_n 1 dX1_carry_69 rfl rfl ?_
  refine x_sub [0, 2] rfl ?_
  exact xs_callV mX1_crossLink [.int v4, .int v2] [] 43 1 2 _ rfl dX1_carry_70 ml_X1_89 qX1_crossLink rfl ⟨Nat.le_of_ble_eq_true rfl, Nat.le_of_ble_eq_true rfl⟩ ⟨rfl, rfl⟩ (Nat.le_of_ble_eq_true rfl) sh_43 (by decide) rfl (Nat.le_of_ble_eq_true rfl) (K)
theorem bX1_carry_73 {I : Nat → Nat → Int32} {L : Nat → Int64} {Q : Option Value → (Nat → Nat → Int32) → (Nat → Int64) → Prop} {v3 : Int32} {s0 : Int32}  (K : XS mX1_carry 90 [(0, .ref 43), (2, .int s0), (3, .int v3)] [] I L Q) : XS mX1_carry 73 [(0, .ref 43), (3, .int v3)] [.int s0] I L Q := by
  refine x_istore_n [(0, .ref 43), (2, .int s0), (3, .int v3)] dX1_carry_73 rfl (Nat.le_of_ble_eq_true rfl) rfl ?_
  exact x_goto 90 dX1_carry_74 (by decide) (K)
theorem bX1_carry_77 {I : Nat → Nat → Int32} {L : Nat → Int64} {Q : Option Value → (Nat → Nat → Int32) → (Nat → Int64) → Prop} {v2 : Int32} {v3 : Int32} {v4 : Int32}  (K : XS mX1_mend 0 [(0, .ref 43), (1, .int v2), (2, .int v4)] [] I L (fun r I' L' => XS mX1_carry 84 [(0, .ref 43), (2, .int v2), (3, .int v3)] (r.toList ++ []) I' L' Q)) : XS mX1_carry 77 [(0, .ref 43), (2, .int v2), (3, .int v3), (4, .int v4)] [] I L Q := by
  refine x_aload_n 0 dX1_carry_77 rfl rfl ?_
  refine x_iload_n 1 dX1_carry_78 rfl rfl ?_
  refine x_iload 3 dX1_carry_79 rfl ?_
  refine x_sub [0, 1, 2] rfl ?_
  exact xs_callV mX1_mend [.int v2, .int v4] [] 43 1 2 _ rfl dX1_carry_81 ml_X1_93 qX1_mend rfl ⟨Nat.le_of_ble_eq_true rfl, Nat.le_of_ble_eq_true rfl⟩ ⟨rfl, rfl⟩ (Nat.le_of_ble_eq_true rfl) sh_43 (by decide) rfl (Nat.le_of_ble_eq_true rfl) (K)
theorem bX1_carry_84 {I : Nat → Nat → Int32} {L : Nat → Int64} {Q : Option Value → (Nat → Nat → Int32) → (Nat → Int64) → Prop} {v2 : Int32} {v3 : Int32} {s0 : Int32}  (K1 : (¬ s0 = 0) → XS mX1_carry 90 [(0, .ref 43), (2, .int v2), (3, .int v3)] [] I L Q) (K2 : (s0 = 0) → XS mX1_carry 87 [] [] I L Q) : XS mX1_carry 84 [(0, .ref 43), (2, .int v2), (3, .int v3)] [.int s0] I L Q := by
  exact x_if_ne 90 dX1_carry_84 (by decide) (fun h => K1 h) (fun h => x_sub [] rfl (K2 h))
theorem bX1_carry_87 {I : Nat → Nat → Int32} {L : Nat → Int64} {Q : Option Value → (Nat → Nat → Int32) → (Nat → Int64) → Prop}   (K : Q (some (.int (-12 : Int32))) I L) : XS mX1_carry 87 [] [] I L Q := by
  refine x_bipush (v := (-12 : Int32)) dX1_carry_87 (by decide) ?_
  exact xs_iret dX1_carry_89 rfl rfl K
theorem bX1_carry_90 {I : Nat → Nat → Int32} {L : Nat → Int64} {Q : Option Value → (Nat → Nat → Int32) → (Nat → Int64) → Prop} {v2 : Int32} {v3 : Int32}  (K : XS mX1_carry 4 [(0, .ref 43), (2, .int v2), (3, .int (v3 + (1 : Int32)))] [] I L Q) : XS mX1_carry 90 [(0, .ref 43), (2, .int v2), (3, .int v3)] [] I L Q := by
  refine x_iinc 2 (v3 + (1 : Int32)) [(0, .ref 43), (2, .int v2), (3, .int (v3 + (1 : Int32)))] dX1_carry_90 rfl rfl (Nat.le_of_ble_eq_true rfl) rfl ?_
  exact x_goto 4 dX1_carry_93 (by decide) (K)
theorem bX1_carry_96 {I : Nat → Nat → Int32} {L : Nat → Int64} {Q : Option Value → (Nat → Nat → Int32) → (Nat → Int64) → Prop}   (K : Q (some (.int (-14 : Int32))) I L) : XS mX1_carry 96 [] [] I L Q := by
  refine x_bipush (v := (-14 : Int32)) dX1_carry_96 (by decide) ?_
  exact xs_iret dX1_carry_98 rfl rfl K
theorem bX1_takeOffReached_0 {I : Nat → Nat → Int32} {L : Nat → Int64} {Q : Option Value → (Nat → Nat → Int32) → (Nat → Int64) → Prop} {v1 : Int32}  (K : XS mX1_takeOffReached 8 [(0, .ref 43), (1, .int v1), (2, .int (I 2818 0))] [] I L Q) : XS mX1_takeOffReached 0 [(0, .ref 43), (1, .int v1)] [] I L Q := by
  refine x_aload_n 0 dX1_takeOffReached_0 rfl rfl ?_
  refine xs_getr dX1_takeOffReached_1 fl_X1_14 sh_43 rfl rf_2755 ?_
  refine xs_geti 2818 dX1_takeOffReached_4 fl_X1_62 sh_44 rfl rfl ?_
  refine x_istore_n [(0, .ref 43), (1, .int v1), (2, .int (I 2818 0))] dX1_takeOffReached_7 rfl (Nat.le_of_ble_eq_true rfl) rfl ?_
  exact K
theorem bX1_takeOffReached_8 {I : Nat → Nat → Int32} {L : Nat → Int64} {Q : Option Value → (Nat → Nat → Int32) → (Nat → Int64) → Prop} {v1 : Int32} {v2 : Int32}  (K1 : (v2 ≤ 0) → XS mX1_takeOffReached 36 [] [] I L Q) (K2 : (¬ v2 ≤ 0) → XS mX1_takeOffReached 12 [(0, .ref 43), (1, .int v1), (2, .int v2)] [] I L Q) : XS mX1_takeOffReached 8 [(0, .ref 43), (1, .int v1), (2, .int v2)] [] I L Q := by
  refine x_iload_n 2 dX1_takeOffReached_8 rfl rfl ?_
  exact x_if_le 36 dX1_takeOffReached_9 (by decide) (fun h => x_sub [] rfl (K1 h)) (fun h => K2 h)
theorem bX1_takeOffReached_12 {I : Nat → Nat → Int32} {L : Nat → Int64} {Q : Option Value → (Nat → Nat → Int32) → (Nat → Int64) → Prop} {v1 : Int32} {v2 : Int32}  (K : XS mX7_isTopTo 0 [(0, .ref 44), (1, .int v1)] [] I L (fun r I' L' => XS mX1_takeOffReached 20 [(0, .ref 43), (1, .int v1), (2, .int v2)] (r.toList ++ []) I' L' Q)) : XS mX1_takeOffReached 12 [(0, .ref 43), (1, .int v1), (2, .int v2)] [] I L Q := by
  refine x_aload_n 0 dX1_takeOffReached_12 rfl rfl ?_
  refine xs_getr dX1_takeOffReached_13 fl_X1_14 sh_43 rfl rf_2755 ?_
  refine x_iload_n 1 dX1_takeOffReached_16 rfl rfl ?_
  exact xs_callV mX7_isTopTo [.int v1] [] 44 7 1 _ rfl dX1_takeOffReached_17 ml_X1_97 qX7_isTopTo rfl ⟨Nat.le_of_ble_eq_true rfl, Nat.le_of_ble_eq_true rfl⟩ ⟨rfl, rfl⟩ (Nat.le_of_ble_eq_true rfl) sh_44 (by decide) rfl (Nat.le_of_ble_eq_true rfl) (K)
theorem bX1_takeOffReached_20 {I : Nat → Nat → Int32} {L : Nat → Int64} {Q : Option Value → (Nat → Nat → Int32) → (Nat → Int64) → Prop} {v1 : Int32} {v2 : Int32} {s0 : Int32}  (K1 : (s0 = 0) → XS mX1_takeOffReached 36 [] [] I L Q) (K2 : (¬ s0 = 0) → XS mX1_takeOffReached 23 [(0, .ref 43), (1, .int v1), (2, .int v2)] [] I L Q) : XS mX1_takeOffReached 20 [(0, .ref 43), (1, .int v1), (2, .int v2)] [.int s0] I L Q := by
  exact x_if_eq 36 dX1_takeOffReached_20 (by decide) (fun h => x_sub [] rfl (K1 h)) (fun h => K2 h)
theorem bX1_takeOffReached_23 {I : Nat → Nat → Int32} {L : Nat → Int64} {Q : Option Value → (Nat → Nat → Int32) → (Nat → Int64) → Prop} {v1 : Int32} {v2 : Int32}  (K : XS mX7_dropTop 0 [(0, .ref 44)] [] I L (fun r I' L' => XS mX1_takeOffReached 30 [(0, .ref 43), (1, .int v1), (2, .int v2)] (r.toList ++ []) I' L' Q)) : XS mX1_takeOffReached 23 [(0, .ref 43), (1, .int v1), (2, .int v2)] [] I L Q := by
  refine x_aload_n 0 dX1_takeOffReached_23 rfl rfl ?_
  refine xs_getr dX1_takeOffReached_24 fl_X1_14 sh_43 rfl rf_2755 ?_
  exact xs_callV mX7_dropTop [] [] 44 7 0 _ rfl dX1_takeOffReached_27 ml_X1_100 qX7_dropTop rfl ⟨Nat.le_of_ble_eq_true rfl, Nat.le_of_ble_eq_true rfl⟩ ⟨rfl, rfl⟩ (Nat.le_of_ble_eq_true rfl) sh_44 (by decide) rfl (Nat.le_of_ble_eq_true rfl) (K)
theorem bX1_takeOffReached_30 {I : Nat → Nat → Int32} {L : Nat → Int64} {Q : Option Value → (Nat → Nat → Int32) → (Nat → Int64) → Prop} {v1 : Int32} {v2 : Int32}  (K : XS mX1_takeOffReached 8 [(0, .ref 43), (1, .int v1), (2, .int (v2 + (-1 : Int32)))] [] I L Q) : XS mX1_takeOffReached 30 [(0, .ref 43), (1, .int v1), (2, .int v2)] [] I L Q := by
  refine x_iinc 2 (v2 + (-1 : Int32)) [(0, .ref 43), (1, .int v1), (2, .int (v2 + (-1 : Int32)))] dX1_takeOffReached_30 rfl rfl (Nat.le_of_ble_eq_true rfl) rfl ?_
  exact x_goto 8 dX1_takeOffReached_33 (by decide) (K)
theorem bX1_takeOffReached_36 {I : Nat → Nat → Int32} {L : Nat → Int64} {Q : Option Value → (Nat → Nat → Int32) → (Nat → Int64) → Prop}   (K : Q none I L) : XS mX1_takeOffReached 36 [] [] I L Q := by
  exact xs_end dX1_takeOffReached_36 rfl K
theorem bX1_linkAhead_0 {I : Nat → Nat → Int32} {L : Nat → Int64} {Q : Option Value → (Nat → Nat → Int32) → (Nat → Int64) → Prop} {v1 : Int32}  (K : XS mX7_topWhat 0 [(0, .ref 44)] [] I L (fun r I' L' => XS mX1_linkAhead 7 [(0, .ref 43), (1, .int v1)] (r.toList ++ []) I' L' Q)) : XS mX1_linkAhead 0 [(0, .ref 43), (1, .int v1)] [] I L Q := by
  refine x_aload_n 0 dX1_linkAhead_0 rfl rfl ?_
  refine xs_getr dX1_linkAhead_1 fl_X1_14 sh_43 rfl rf_2755 ?_
  exact xs_callV mX7_topWhat [] [] 44 7 0 _ rfl dX1_linkAhead_4 ml_X1_103 qX7_topWhat rfl ⟨Nat.le_of_ble_eq_true rfl, Nat.le_of_ble_eq_true rfl⟩ ⟨rfl, rfl⟩ (Nat.le_of_ble_eq_true rfl) sh_44 (by decide) rfl (Nat.le_of_ble_eq_true rfl) (K)
theorem bX1_linkAhead_7 {I : Nat → Nat → Int32} {L : Nat → Int64} {Q : Option Value → (Nat → Nat → Int32) → (Nat → Int64) → Prop} {v1 : Int32} {s0 : Int32}  (K : XS mX7_topKind 0 [(0, .ref 44)] [] I L (fun r I' L' => XS mX1_linkAhead 15 [(0, .ref 43), (1, .int v1), (2, .int s0)] (r.toList ++ []) I' L' Q)) : XS mX1_linkAhead 7 [(0, .ref 43), (1, .int v1)] [.int s0] I L Q := by
  refine x_istore_n [(0, .ref 43), (1, .int v1), (2, .int s0)] dX1_linkAhead_7 rfl (Nat.le_of_ble_eq_true rfl) rfl ?_
  refine x_aload_n 0 dX1_linkAhead_8 rfl rfl ?_
  refine xs_getr dX1_linkAhead_9 fl_X1_14 sh_43 rfl rf_2755 ?_
  exact xs_callV mX7_topKind [] [] 44 7 0 _ rfl dX1_linkAhead_12 ml_X1_106 qX7_topKind rfl ⟨Nat.le_of_ble_eq_true rfl, Nat.le_of_ble_eq_true rfl⟩ ⟨rfl, rfl⟩ (Nat.le_of_ble_eq_true rfl) sh_44 (by decide) rfl (Nat.le_of_ble_eq_true rfl) (K)
theorem bX1_linkAhead_15 {I : Nat → Nat → Int32} {L : Nat → Int64} {Q : Option Value → (Nat → Nat → Int32) → (Nat → Int64) → Prop} {v1 : Int32} {v2 : Int32} {s0 : Int32}  (K1 : (¬ s0 = (2 : Int32)) → XS mX1_linkAhead 39 [(0, .ref 43), (1, .int v1), (2, .int v2)] [] I L Q) (K2 : (s0 = (2 : Int32)) → XS mX1_linkAhead 19 [(0, .ref 43), (1, .int v1), (2, .int v2)] [] I L Q) : XS mX1_linkAhead 15 [(0, .ref 43), (1, .int v1), (2, .int v2)] [.int s0] I L Q := by
  refine x_iconst (v := (2 : Int32)) dX1_linkAhead_15 (by decide) ?_
  exact x_icmp_ne 39 dX1_linkAhead_16 (by decide) (fun h => K1 h) (fun h => K2 h)
theorem bX1_linkAhead_19 {I : Nat → Nat → Int32} {L : Nat → Int64} {Q : Option Value → (Nat → Nat → Int32) → (Nat → Int64) → Prop} {v1 : Int32} {v2 : Int32}  (K : XS mX2_otherEnd 0 [(0, .ref 1), (1, .int v2), (2, .int v1)] [] I L (fun r I' L' => XS mX1_linkAhead 28 [(2, .int v2)] (r.toList ++ []) I' L' Q)) : XS mX1_linkAhead 19 [(0, .ref 43), (1, .int v1), (2, .int v2)] [] I L Q := by
  refine x_aload_n 0 dX1_linkAhead_19 rfl rfl ?_
  refine xs_getr dX1_linkAhead_20 fl_X1_47 sh_43 rfl rf_2752 ?_
  refine x_iload_n 2 dX1_linkAhead_23 rfl rfl ?_
  refine x_iload_n 1 dX1_linkAhead_24 rfl rfl ?_
  refine x_sub [2] rfl ?_
  exact xs_callV mX2_otherEnd [.int v2, .int v1] [] 1 2 2 _ rfl dX1_linkAhead_25 ml_X1_109 qX2_otherEnd rfl ⟨Nat.le_of_ble_eq_true rfl, Nat.le_of_ble_eq_true rfl⟩ ⟨rfl, rfl⟩ (Nat.le_of_ble_eq_true rfl) sh_1 (by decide) rfl (Nat.le_of_ble_eq_true rfl) (K)
theorem bX1_linkAhead_28 {I : Nat → Nat → Int32} {L : Nat → Int64} {Q : Option Value → (Nat → Nat → Int32) → (Nat → Int64) → Prop} {v2 : Int32} {s0 : Int32}  (K1 : (¬ s0 = (-1 : Int32)) → XS mX1_linkAhead 37 [(2, .int v2)] [] I L Q) (K2 : (s0 = (-1 : Int32)) → XS mX1_linkAhead 32 [] [] I L Q) : XS mX1_linkAhead 28 [(2, .int v2)] [.int s0] I L Q := by
  refine x_iconst (v := (-1 : Int32)) dX1_linkAhead_28 (by decide) ?_
  exact x_icmp_ne 37 dX1_linkAhead_29 (by decide) (fun h => K1 h) (fun h => x_sub [] rfl (K2 h))
theorem bX1_linkAhead_32 {I : Nat → Nat → Int32} {L : Nat → Int64} {Q : Option Value → (Nat → Nat → Int32) → (Nat → Int64) → Prop}   (K : XS mX1_linkAhead 38 [] [.int (-13 : Int32)] I L Q) : XS mX1_linkAhead 32 [] [] I L Q := by
  refine x_bipush (v := (-13 : Int32)) dX1_linkAhead_32 (by decide) ?_
  exact x_goto 38 dX1_linkAhead_34 (by decide) (K)
theorem bX1_linkAhead_37 {I : Nat → Nat → Int32} {L : Nat → Int64} {Q : Option Value → (Nat → Nat → Int32) → (Nat → Int64) → Prop} {v2 : Int32}  (K : XS mX1_linkAhead 38 [] [.int v2] I L Q) : XS mX1_linkAhead 37 [(2, .int v2)] [] I L Q := by
  refine x_iload_n 0 dX1_linkAhead_37 rfl rfl ?_
  exact x_sub [] rfl (K)
theorem bX1_linkAhead_38 {I : Nat → Nat → Int32} {L : Nat → Int64} {Q : Option Value → (Nat → Nat → Int32) → (Nat → Int64) → Prop} {s0 : Int32}  (K : Q (some (.int s0)) I L) : XS mX1_linkAhead 38 [] [.int s0] I L Q := by
  exact xs_iret dX1_linkAhead_38 rfl rfl K
theorem bX1_linkAhead_39 {I : Nat → Nat → Int32} {L : Nat → Int64} {Q : Option Value → (Nat → Nat → Int32) → (Nat → Int64) → Prop} {v1 : Int32} {v2 : Int32}  (K : XS mX7_topKind 0 [(0, .ref 44)] [] I L (fun r I' L' => XS mX1_linkAhead 51 [(0, .ref 43), (1, .int v1)] (r.toList ++ [.int v2, .ref 16]) I' L' Q)) : XS mX1_linkAhead 39 [(0, .ref 43), (1, .int v1), (2, .int v2)] [] I L Q := by
  refine x_aload_n 0 dX1_linkAhead_39 rfl rfl ?_
  refine xs_getr dX1_linkAhead_40 fl_X1_51 sh_43 rfl rf_2753 ?_
  refine x_iload_n 2 dX1_linkAhead_43 rfl rfl ?_
  refine x_aload_n 0 dX1_linkAhead_44 rfl rfl ?_
  refine xs_getr dX1_linkAhead_45 fl_X1_14 sh_43 rfl rf_2755 ?_
  refine x_sub [0, 1] rfl ?_
  exact xs_callV mX7_topKind [] [.int v2, .ref 16] 44 7 0 _ rfl dX1_linkAhead_48 ml_X1_106 qX7_topKind rfl ⟨Nat.le_of_ble_eq_true rfl, Nat.le_of_ble_eq_true rfl⟩ ⟨rfl, rfl⟩ (Nat.le_of_ble_eq_true rfl) sh_44 (by decide) rfl (Nat.le_of_ble_eq_true rfl) (K)
theorem bX1_linkAhead_51 {I : Nat → Nat → Int32} {L : Nat → Int64} {Q : Option Value → (Nat → Nat → Int32) → (Nat → Int64) → Prop} {v1 : Int32} {s1 : Int32} {s2 : Int32} (hb1 : vp_in v1 8) (K : XS mX5_measure 0 [(0, .ref 16), (1, .int s1), (2, .int s2), (3, .int (I 448 (v1.toNatClampNeg)))] [] I L (fun r I' L' => XS mX1_linkAhead 63 [(0, .ref 43), (1, .int v1)] (r.toList ++ []) I' L' Q)) : XS mX1_linkAhead 51 [(0, .ref 43), (1, .int v1)] [.int s2, .int s1, .ref 16] I L Q := by
  refine x_aload_n 0 dX1_linkAhead_51 rfl rfl ?_
  refine xs_getr dX1_linkAhead_52 fl_X1_47 sh_43 rfl rf_2752 ?_
  refine xs_getr dX1_linkAhead_55 fl_X1_112 sh_1 rfl rf_72 ?_
  refine x_iload_n 1 dX1_linkAhead_58 rfl rfl ?_
  refine xs_iald 448 (v1.toNatClampNeg) dX1_linkAhead_59 sh_7 rfl rfl hb1 ?_
  exact xs_callV mX5_measure [.int s1, .int s2, .int (I 448 (v1.toNatClampNeg))] [] 16 5 3 _ rfl dX1_linkAhead_60 ml_X1_116 qX5_measure rfl ⟨Nat.le_of_ble_eq_true rfl, Nat.le_of_ble_eq_true rfl⟩ ⟨rfl, rfl⟩ (Nat.le_of_ble_eq_true rfl) sh_16 (by decide) rfl (Nat.le_of_ble_eq_true rfl) (K)
theorem bX1_linkAhead_63 {I : Nat → Nat → Int32} {L : Nat → Int64} {Q : Option Value → (Nat → Nat → Int32) → (Nat → Int64) → Prop} {v1 : Int32}  (K : XS mX5_linkAhead 0 [(0, .ref 16), (1, .int v1)] [] I L (fun r I' L' => XS mX1_linkAhead 71 [] (r.toList ++ []) I' L' Q)) : XS mX1_linkAhead 63 [(0, .ref 43), (1, .int v1)] [] I L Q := by
  refine x_aload_n 0 dX1_linkAhead_63 rfl rfl ?_
  refine xs_getr dX1_linkAhead_64 fl_X1_51 sh_43 rfl rf_2753 ?_
  refine x_iload_n 1 dX1_linkAhead_67 rfl rfl ?_
  refine x_sub [] rfl ?_
  exact xs_callV mX5_linkAhead [.int v1] [] 16 5 1 _ rfl dX1_linkAhead_68 ml_X1_122 qX5_linkAhead rfl ⟨Nat.le_of_ble_eq_true rfl, Nat.le_of_ble_eq_true rfl⟩ ⟨rfl, rfl⟩ (Nat.le_of_ble_eq_true rfl) sh_16 (by decide) rfl (Nat.le_of_ble_eq_true rfl) (K)
theorem bX1_linkAhead_71 {I : Nat → Nat → Int32} {L : Nat → Int64} {Q : Option Value → (Nat → Nat → Int32) → (Nat → Int64) → Prop} {s0 : Int32}  (K1 : (¬ s0 = (-1 : Int32)) → XS mX1_linkAhead 82 [(3, .int s0)] [] I L Q) (K2 : (s0 = (-1 : Int32)) → XS mX1_linkAhead 77 [] [] I L Q) : XS mX1_linkAhead 71 [] [.int s0] I L Q := by
  refine x_istore_n [(3, .int s0)] dX1_linkAhead_71 rfl (Nat.le_of_ble_eq_true rfl) rfl ?_
  refine x_iload_n 0 dX1_linkAhead_72 rfl rfl ?_
  refine x_iconst (v := (-1 : Int32)) dX1_linkAhead_73 (by decide) ?_
  exact x_icmp_ne 82 dX1_linkAhead_74 (by decide) (fun h => K1 h) (fun h => x_sub [] rfl (K2 h))
theorem bX1_linkAhead_77 {I : Nat → Nat → Int32} {L : Nat → Int64} {Q : Option Value → (Nat → Nat → Int32) → (Nat → Int64) → Prop}   (K : XS mX1_linkAhead 83 [] [.int (-11 : Int32)] I L Q) : XS mX1_linkAhead 77 [] [] I L Q := by
  refine x_bipush (v := (-11 : Int32)) dX1_linkAhead_77 (by decide) ?_
  exact x_goto 83 dX1_linkAhead_79 (by decide) (K)
theorem bX1_linkAhead_82 {I : Nat → Nat → Int32} {L : Nat → Int64} {Q : Option Value → (Nat → Nat → Int32) → (Nat → Int64) → Prop} {v3 : Int32}  (K : XS mX1_linkAhead 83 [] [.int v3] I L Q) : XS mX1_linkAhead 82 [(3, .int v3)] [] I L Q := by
  refine x_iload_n 0 dX1_linkAhead_82 rfl rfl ?_
  exact x_sub [] rfl (K)
theorem bX1_linkAhead_83 {I : Nat → Nat → Int32} {L : Nat → Int64} {Q : Option Value → (Nat → Nat → Int32) → (Nat → Int64) → Prop} {s0 : Int32}  (K : Q (some (.int s0)) I L) : XS mX1_linkAhead 83 [] [.int s0] I L Q := by
  exact xs_iret dX1_linkAhead_83 rfl rfl K
theorem bX1_crossLink_0 {I : Nat → Nat → Int32} {L : Nat → Int64} {Q : Option Value → (Nat → Nat → Int32) → (Nat → Int64) → Prop} {v1 : Int32} {v2 : Int32}  (K : XS mX7_topKind 0 [(0, .ref 44)] [] I L (fun r I' L' => XS mX1_crossLink 7 [(0, .ref 43), (1, .int v1), (2, .int v2)] (r.toList ++ []) I' L' Q)) : XS mX1_crossLink 0 [(0, .ref 43), (1, .int v1), (2, .int v2)] [] I L Q := by
  refine x_aload_n 0 dX1_crossLink_0 rfl rfl ?_
  refine xs_getr dX1_crossLink_1 fl_X1_14 sh_43 rfl rf_2755 ?_
  exact xs_callV mX7_topKind [] [] 44 7 0 _ rfl dX1_crossLink_4 ml_X1_106 qX7_topKind rfl ⟨Nat.le_of_ble_eq_true rfl, Nat.le_of_ble_eq_true rfl⟩ ⟨rfl, rfl⟩ (Nat.le_of_ble_eq_true rfl) sh_44 (by decide) rfl (Nat.le_of_ble_eq_true rfl) (K)
theorem bX1_crossLink_7 {I : Nat → Nat → Int32} {L : Nat → Int64} {Q : Option Value → (Nat → Nat → Int32) → (Nat → Int64) → Prop} {v1 : Int32} {v2 : Int32} {s0 : Int32}  (K1 : (¬ s0 = (2 : Int32)) → XS mX1_crossLink 18 [(0, .ref 43), (1, .int v1), (2, .int v2)] [] I L Q) (K2 : (s0 = (2 : Int32)) → XS mX1_crossLink 11 [(0, .ref 43), (1, .int v1), (2, .int v2)] [] I L Q) : XS mX1_crossLink 7 [(0, .ref 43), (1, .int v1), (2, .int v2)] [.int s0] I L Q := by
  refine x_iconst (v := (2 : Int32)) dX1_crossLink_7 (by decide) ?_
  exact x_icmp_ne 18 dX1_crossLink_8 (by decide) (fun h => K1 h) (fun h => K2 h)
theorem bX1_crossLink_11 {I : Nat → Nat → Int32} {L : Nat → Int64} {Q : Option Value → (Nat → Nat → Int32) → (Nat → Int64) → Prop} {v1 : Int32} {v2 : Int32}  (K : XS mX7_dropTop 0 [(0, .ref 44)] [] I L (fun r I' L' => XS mX1_crossLink 18 [(0, .ref 43), (1, .int v1), (2, .int v2)] (r.toList ++ []) I' L' Q)) : XS mX1_crossLink 11 [(0, .ref 43), (1, .int v1), (2, .int v2)] [] I L Q := by
  refine x_aload_n 0 dX1_crossLink_11 rfl rfl ?_
  refine xs_getr dX1_crossLink_12 fl_X1_14 sh_43 rfl rf_2755 ?_
  exact xs_callV mX7_dropTop [] [] 44 7 0 _ rfl dX1_crossLink_15 ml_X1_100 qX7_dropTop rfl ⟨Nat.le_of_ble_eq_true rfl, Nat.le_of_ble_eq_true rfl⟩ ⟨rfl, rfl⟩ (Nat.le_of_ble_eq_true rfl) sh_44 (by decide) rfl (Nat.le_of_ble_eq_true rfl) (K)
theorem bX1_crossLink_18 {I : Nat → Nat → Int32} {L : Nat → Int64} {Q : Option Value → (Nat → Nat → Int32) → (Nat → Int64) → Prop} {v1 : Int32} {v2 : Int32}  (K : XS mX2_otherEnd 0 [(0, .ref 1), (1, .int v1), (2, .int v2)] [] I L (fun r I' L' => XS mX1_crossLink 27 [(0, .ref 43), (1, .int v1)] (r.toList ++ []) I' L' Q)) : XS mX1_crossLink 18 [(0, .ref 43), (1, .int v1), (2, .int v2)] [] I L Q := by
  refine x_aload_n 0 dX1_crossLink_18 rfl rfl ?_
  refine xs_getr dX1_crossLink_19 fl_X1_47 sh_43 rfl rf_2752 ?_
  refine x_iload_n 1 dX1_crossLink_22 rfl rfl ?_
  refine x_iload_n 2 dX1_crossLink_23 rfl rfl ?_
  refine x_sub [0, 1] rfl ?_
  exact xs_callV mX2_otherEnd [.int v1, .int v2] [] 1 2 2 _ rfl dX1_crossLink_24 ml_X1_109 qX2_otherEnd rfl ⟨Nat.le_of_ble_eq_true rfl, Nat.le_of_ble_eq_true rfl⟩ ⟨rfl, rfl⟩ (Nat.le_of_ble_eq_true rfl) sh_1 (by decide) rfl (Nat.le_of_ble_eq_true rfl) (K)
theorem bX1_crossLink_27 {I : Nat → Nat → Int32} {L : Nat → Int64} {Q : Option Value → (Nat → Nat → Int32) → (Nat → Int64) → Prop} {v1 : Int32} {s0 : Int32} (hb1 : vp_in v1 14) (hb2 : vp_in v1 14) (K : XS mX6_put 0 [(0, .ref 47), (1, .int s0)] [] (x_up I 384 (v1.toNatClampNeg) ((I 384 (v1.toNatClampNeg)) + (1 : Int32))) L (fun r I' L' => XS mX1_crossLink 49 [(3, .int s0)] (r.toList ++ []) I' L' Q)) : XS mX1_crossLink 27 [(0, .ref 43), (1, .int v1)] [.int s0] I L Q := by
  refine x_istore_n [(0, .ref 43), (1, .int v1), (3, .int s0)] dX1_crossLink_27 rfl (Nat.le_of_ble_eq_true rfl) rfl ?_
  refine x_aload_n 0 dX1_crossLink_28 rfl rfl ?_
  refine xs_getr dX1_crossLink_29 fl_X1_47 sh_43 rfl rf_2752 ?_
  refine xs_getr dX1_crossLink_32 fl_X1_123 sh_1 rfl rf_71 ?_
  refine x_iload_n 1 dX1_crossLink_35 rfl rfl ?_
  refine x_dup2 dX1_crossLink_36 rfl rfl ?_
  refine xs_iald 384 (v1.toNatClampNeg) dX1_crossLink_37 sh_6 rfl rfl hb1 ?_
  refine x_iconst (v := (1 : Int32)) dX1_crossLink_38 (by decide) ?_
  refine x_iadd dX1_crossLink_39 ?_
  refine xs_iast 384 (v1.toNatClampNeg) dX1_crossLink_40 sh_6 rfl rfl hb2 ?_
  refine x_aload_n 0 dX1_crossLink_41 rfl rfl ?_
  refine xs_getr dX1_crossLink_42 fl_X1_23 sh_43 rfl rf_2756 ?_
  refine x_iload_n 2 dX1_crossLink_45 rfl rfl ?_
  refine x_sub [2] rfl ?_
  exact xs_callV mX6_put [.int s0] [] 47 6 1 _ rfl dX1_crossLink_46 ml_X1_69 qX6_put rfl ⟨Nat.le_of_ble_eq_true rfl, Nat.le_of_ble_eq_true rfl⟩ ⟨rfl, rfl⟩ (Nat.le_of_ble_eq_true rfl) sh_47 (by decide) rfl (Nat.le_of_ble_eq_true rfl) (K)
theorem bX1_crossLink_49 {I : Nat → Nat → Int32} {L : Nat → Int64} {Q : Option Value → (Nat → Nat → Int32) → (Nat → Int64) → Prop} {v3 : Int32}  (K : Q (some (.int v3)) I L) : XS mX1_crossLink 49 [(3, .int v3)] [] I L Q := by
  refine x_iload_n 0 dX1_crossLink_49 rfl rfl ?_
  exact xs_iret dX1_crossLink_50 rfl rfl K
theorem bX1_mend_0 {I : Nat → Nat → Int32} {L : Nat → Int64} {Q : Option Value → (Nat → Nat → Int32) → (Nat → Int64) → Prop} {v1 : Int32} {v2 : Int32}  (K1 : ((I 2757 0) = 0) → XS mX1_mend 14 [] [] I L Q) (K2 : (¬ (I 2757 0) = 0) → XS mX1_mend 7 [(0, .ref 43), (1, .int v1), (2, .int v2)] [] I L Q) : XS mX1_mend 0 [(0, .ref 43), (1, .int v1), (2, .int v2)] [] I L Q := by
  refine x_aload_n 0 dX1_mend_0 rfl rfl ?_
  refine xs_geti 2757 dX1_mend_1 fl_X1_27 sh_43 rfl rfl ?_
  exact x_if_eq 14 dX1_mend_4 (by decide) (fun h => x_sub [] rfl (K1 h)) (fun h => K2 h)
theorem bX1_mend_7 {I : Nat → Nat → Int32} {L : Nat → Int64} {Q : Option Value → (Nat → Nat → Int32) → (Nat → Int64) → Prop} {v1 : Int32} {v2 : Int32}  (K1 : ((I 2762 0) = 0) → XS mX1_mend 16 [(0, .ref 43), (1, .int v1), (2, .int v2)] [] I L Q) (K2 : (¬ (I 2762 0) = 0) → XS mX1_mend 14 [] [] I L Q) : XS mX1_mend 7 [(0, .ref 43), (1, .int v1), (2, .int v2)] [] I L Q := by
  refine x_aload_n 0 dX1_mend_7 rfl rfl ?_
  refine xs_geti 2762 dX1_mend_8 fl_X1_43 sh_43 rfl rfl ?_
  exact x_if_eq 16 dX1_mend_11 (by decide) (fun h => K1 h) (fun h => x_sub [] rfl (K2 h))
theorem bX1_mend_14 {I : Nat → Nat → Int32} {L : Nat → Int64} {Q : Option Value → (Nat → Nat → Int32) → (Nat → Int64) → Prop}   (K : Q (some (.int (0 : Int32))) I L) : XS mX1_mend 14 [] [] I L Q := by
  refine x_iconst (v := (0 : Int32)) dX1_mend_14 (by decide) ?_
  exact xs_iret dX1_mend_15 rfl (x_nar _ (Or.inl rfl)) K
theorem bX1_mend_16 {I : Nat → Nat → Int32} {L : Nat → Int64} {Q : Option Value → (Nat → Nat → Int32) → (Nat → Int64) → Prop} {v1 : Int32} {v2 : Int32}  (K : XS mX7_topKind 0 [(0, .ref 44)] [] I L (fun r I' L' => XS mX1_mend 23 [(0, .ref 43), (1, .int v1), (2, .int v2)] (r.toList ++ []) I' L' Q)) : XS mX1_mend 16 [(0, .ref 43), (1, .int v1), (2, .int v2)] [] I L Q := by
  refine x_aload_n 0 dX1_mend_16 rfl rfl ?_
  refine xs_getr dX1_mend_17 fl_X1_14 sh_43 rfl rf_2755 ?_
  exact xs_callV mX7_topKind [] [] 44 7 0 _ rfl dX1_mend_20 ml_X1_106 qX7_topKind rfl ⟨Nat.le_of_ble_eq_true rfl, Nat.le_of_ble_eq_true rfl⟩ ⟨rfl, rfl⟩ (Nat.le_of_ble_eq_true rfl) sh_44 (by decide) rfl (Nat.le_of_ble_eq_true rfl) (K)
theorem bX1_mend_23 {I : Nat → Nat → Int32} {L : Nat → Int64} {Q : Option Value → (Nat → Nat → Int32) → (Nat → Int64) → Prop} {v1 : Int32} {v2 : Int32} {s0 : Int32}  (K1 : (¬ s0 = (2 : Int32)) → XS mX1_mend 31 [(0, .ref 43), (1, .int v1), (2, .int v2)] [] I L Q) (K2 : (s0 = (2 : Int32)) → XS mX1_mend 27 [(0, .ref 43), (1, .int v1), (2, .int v2)] [] I L Q) : XS mX1_mend 23 [(0, .ref 43), (1, .int v1), (2, .int v2)] [.int s0] I L Q := by
  refine x_iconst (v := (2 : Int32)) dX1_mend_23 (by decide) ?_
  exact x_icmp_ne 31 dX1_mend_24 (by decide) (fun h => K1 h) (fun h => K2 h)
theorem bX1_mend_27 {I : Nat → Nat → Int32} {L : Nat → Int64} {Q : Option Value → (Nat → Nat → Int32) → (Nat → Int64) → Prop} {v1 : Int32} {v2 : Int32}  (K : XS mX1_mend 32 [(0, .ref 43), (1, .int v1), (2, .int v2)] [.int (1 : Int32)] I L Q) : XS mX1_mend 27 [(0, .ref 43), (1, .int v1), (2, .int v2)] [] I L Q := by
  refine x_iconst (v := (1 : Int32)) dX1_mend_27 (by decide) ?_
  exact x_goto 32 dX1_mend_28 (by decide) (K)
theorem bX1_mend_31 {I : Nat → Nat → Int32} {L : Nat → Int64} {Q : Option Value → (Nat → Nat → Int32) → (Nat → Int64) → Prop} {v1 : Int32} {v2 : Int32}  (K : XS mX1_mend 32 [(0, .ref 43), (1, .int v1), (2, .int v2)] [.int (0 : Int32)] I L Q) : XS mX1_mend 31 [(0, .ref 43), (1, .int v1), (2, .int v2)] [] I L Q := by
  refine x_iconst (v := (0 : Int32)) dX1_mend_31 (by decide) ?_
  exact K
theorem bX1_mend_32 {I : Nat → Nat → Int32} {L : Nat → Int64} {Q : Option Value → (Nat → Nat → Int32) → (Nat → Int64) → Prop} {v1 : Int32} {v2 : Int32} {s0 : Int32}  (K1 : (s0 = 0) → XS mX1_mend 49 [(0, .ref 43), (1, .int v1), (2, .int v2), (3, .int s0)] [] I L Q) (K2 : (¬ s0 = 0) → XS mX1_mend 37 [(0, .ref 43), (1, .int v1), (2, .int v2), (3, .int s0)] [] I L Q) : XS mX1_mend 32 [(0, .ref 43), (1, .int v1), (2, .int v2)] [.int s0] I L Q := by
  refine x_istore_n [(0, .ref 43), (1, .int v1), (2, .int v2), (3, .int s0)] dX1_mend_32 rfl (Nat.le_of_ble_eq_true rfl) rfl ?_
  refine x_iload_n 3 dX1_mend_33 rfl rfl ?_
  exact x_if_eq 49 dX1_mend_34 (by decide) (fun h => K1 h) (fun h => K2 h)
theorem bX1_mend_37 {I : Nat → Nat → Int32} {L : Nat → Int64} {Q : Option Value → (Nat → Nat → Int32) → (Nat → Int64) → Prop} {v1 : Int32} {v2 : Int32} {v3 : Int32}  (K : XS mX2_otherEnd 0 [(0, .ref 1), (1, .int v2), (2, .int v1)] [] I L (fun r I' L' => XS mX1_mend 46 [(0, .ref 43), (1, .int v1), (2, .int v2), (3, .int v3)] (r.toList ++ []) I' L' Q)) : XS mX1_mend 37 [(0, .ref 43), (1, .int v1), (2, .int v2), (3, .int v3)] [] I L Q := by
  refine x_aload_n 0 dX1_mend_37 rfl rfl ?_
  refine xs_getr dX1_mend_38 fl_X1_47 sh_43 rfl rf_2752 ?_
  refine x_iload_n 2 dX1_mend_41 rfl rfl ?_
  refine x_iload_n 1 dX1_mend_42 rfl rfl ?_
  exact xs_callV mX2_otherEnd [.int v2, .int v1] [] 1 2 2 _ rfl dX1_mend_43 ml_X1_109 qX2_otherEnd rfl ⟨Nat.le_of_ble_eq_true rfl, Nat.le_of_ble_eq_true rfl⟩ ⟨rfl, rfl⟩ (Nat.le_of_ble_eq_true rfl) sh_1 (by decide) rfl (Nat.le_of_ble_eq_true rfl) (K)
theorem bX1_mend_46 {I : Nat → Nat → Int32} {L : Nat → Int64} {Q : Option Value → (Nat → Nat → Int32) → (Nat → Int64) → Prop} {v1 : Int32} {v2 : Int32} {v3 : Int32} {s0 : Int32}  (K : XS mX1_mend 56 [(0, .ref 43), (1, .int v1), (2, .int v2), (3, .int v3)] [.int s0] I L Q) : XS mX1_mend 46 [(0, .ref 43), (1, .int v1), (2, .int v2), (3, .int v3)] [.int s0] I L Q := by
  exact x_goto 56 dX1_mend_46 (by decide) (K)
theorem bX1_mend_49 {I : Nat → Nat → Int32} {L : Nat → Int64} {Q : Option Value → (Nat → Nat → Int32) → (Nat → Int64) → Prop} {v1 : Int32} {v2 : Int32} {v3 : Int32}  (K : XS mX7_topWhat 0 [(0, .ref 44)] [] I L (fun r I' L' => XS mX1_mend 56 [(0, .ref 43), (1, .int v1), (2, .int v2), (3, .int v3)] (r.toList ++ []) I' L' Q)) : XS mX1_mend 49 [(0, .ref 43), (1, .int v1), (2, .int v2), (3, .int v3)] [] I L Q := by
  refine x_aload_n 0 dX1_mend_49 rfl rfl ?_
  refine xs_getr dX1_mend_50 fl_X1_14 sh_43 rfl rf_2755 ?_
  exact xs_callV mX7_topWhat [] [] 44 7 0 _ rfl dX1_mend_53 ml_X1_103 qX7_topWhat rfl ⟨Nat.le_of_ble_eq_true rfl, Nat.le_of_ble_eq_true rfl⟩ ⟨rfl, rfl⟩ (Nat.le_of_ble_eq_true rfl) sh_44 (by decide) rfl (Nat.le_of_ble_eq_true rfl) (K)
theorem bX1_mend_56 {I : Nat → Nat → Int32} {L : Nat → Int64} {Q : Option Value → (Nat → Nat → Int32) → (Nat → Int64) → Prop} {v1 : Int32} {v2 : Int32} {v3 : Int32} {s0 : Int32}  (K : XS mX0_findRepair 0 [(0, .ref 31), (1, .int v1), (2, .int v2), (3, .int s0)] [] I L (fun r I' L' => XS mX1_mend 69 [(0, .ref 43), (3, .int v3)] (r.toList ++ []) I' L' Q)) : XS mX1_mend 56 [(0, .ref 43), (1, .int v1), (2, .int v2), (3, .int v3)] [.int s0] I L Q := by
  refine x_istore [(0, .ref 43), (1, .int v1), (2, .int v2), (3, .int v3), (4, .int s0)] dX1_mend_56 (Nat.le_of_ble_eq_true rfl) rfl ?_
  refine x_aload_n 0 dX1_mend_58 rfl rfl ?_
  refine xs_getr dX1_mend_59 fl_X1_55 sh_43 rfl rf_2754 ?_
  refine x_iload_n 1 dX1_mend_62 rfl rfl ?_
  refine x_iload_n 2 dX1_mend_63 rfl rfl ?_
  refine x_iload 4 dX1_mend_64 rfl ?_
  refine x_sub [0, 3] rfl ?_
  exact xs_callV mX0_findRepair [.int v1, .int v2, .int s0] [] 31 0 3 _ rfl dX1_mend_66 ml_X1_126 qX0_findRepair rfl ⟨Nat.le_of_ble_eq_true rfl, Nat.le_of_ble_eq_true rfl⟩ ⟨rfl, rfl⟩ (Nat.le_of_ble_eq_true rfl) sh_31 (by decide) rfl (Nat.le_of_ble_eq_true rfl) (K)
theorem bX1_mend_69 {I : Nat → Nat → Int32} {L : Nat → Int64} {Q : Option Value → (Nat → Nat → Int32) → (Nat → Int64) → Prop} {v3 : Int32} {s0 : Int32}  (K1 : (¬ s0 = 0) → XS mX1_mend 74 [(0, .ref 43), (3, .int v3)] [] I L Q) (K2 : (s0 = 0) → XS mX1_mend 72 [] [] I L Q) : XS mX1_mend 69 [(0, .ref 43), (3, .int v3)] [.int s0] I L Q := by
  exact x_if_ne 74 dX1_mend_69 (by decide) (fun h => K1 h) (fun h => x_sub [] rfl (K2 h))
theorem bX1_mend_72 {I : Nat → Nat → Int32} {L : Nat → Int64} {Q : Option Value → (Nat → Nat → Int32) → (Nat → Int64) → Prop}   (K : Q (some (.int (0 : Int32))) I L) : XS mX1_mend 72 [] [] I L Q := by
  refine x_iconst (v := (0 : Int32)) dX1_mend_72 (by decide) ?_
  exact xs_iret dX1_mend_73 rfl (x_nar _ (Or.inl rfl)) K
theorem bX1_mend_74 {I : Nat → Nat → Int32} {L : Nat → Int64} {Q : Option Value → (Nat → Nat → Int32) → (Nat → Int64) → Prop} {v3 : Int32}  (K1 : (v3 = 0) → XS mX1_mend 85 [(0, .ref 43)] [] I L Q) (K2 : (¬ v3 = 0) → XS mX1_mend 78 [(0, .ref 43)] [] I L Q) : XS mX1_mend 74 [(0, .ref 43), (3, .int v3)] [] I L Q := by
  refine x_iload_n 1 dX1_mend_74 rfl rfl ?_
  exact x_if_eq 85 dX1_mend_75 (by decide) (fun h => x_sub [0] rfl (K1 h)) (fun h => x_sub [0] rfl (K2 h))
theorem bX1_mend_78 {I : Nat → Nat → Int32} {L : Nat → Int64} {Q : Option Value → (Nat → Nat → Int32) → (Nat → Int64) → Prop}   (K : XS mX7_dropTop 0 [(0, .ref 44)] [] I L (fun r I' L' => XS mX1_mend 85 [(0, .ref 43)] (r.toList ++ []) I' L' Q)) : XS mX1_mend 78 [(0, .ref 43)] [] I L Q := by
  refine x_aload_n 0 dX1_mend_78 rfl rfl ?_
  refine xs_getr dX1_mend_79 fl_X1_14 sh_43 rfl rf_2755 ?_
  exact xs_callV mX7_dropTop [] [] 44 7 0 _ rfl dX1_mend_82 ml_X1_100 qX7_dropTop rfl ⟨Nat.le_of_ble_eq_true rfl, Nat.le_of_ble_eq_true rfl⟩ ⟨rfl, rfl⟩ (Nat.le_of_ble_eq_true rfl) sh_44 (by decide) rfl (Nat.le_of_ble_eq_true rfl) (K)
theorem bX1_mend_85 {I : Nat → Nat → Int32} {L : Nat → Int64} {Q : Option Value → (Nat → Nat → Int32) → (Nat → Int64) → Prop}   (K : XS mX7_putOnTop 0 [(0, .ref 44), (1, .ref 40)] [] I L (fun r I' L' => XS mX1_mend 99 [(0, .ref 43)] (r.toList ++ []) I' L' Q)) : XS mX1_mend 85 [(0, .ref 43)] [] I L Q := by
  refine x_aload_n 0 dX1_mend_85 rfl rfl ?_
  refine xs_getr dX1_mend_86 fl_X1_14 sh_43 rfl rf_2755 ?_
  refine x_aload_n 0 dX1_mend_89 rfl rfl ?_
  refine xs_getr dX1_mend_90 fl_X1_55 sh_43 rfl rf_2754 ?_
  refine xs_getr dX1_mend_93 fl_X1_132 sh_31 rfl rf_1993 ?_
  exact xs_callV mX7_putOnTop [.ref 40] [] 44 7 1 _ rfl dX1_mend_96 ml_X1_65 qX7_putOnTop rfl ⟨Nat.le_of_ble_eq_true rfl, Nat.le_of_ble_eq_true rfl⟩ ⟨rfl, rfl⟩ (Nat.le_of_ble_eq_true rfl) sh_44 (by decide) rfl (Nat.le_of_ble_eq_true rfl) (K)
theorem bX1_mend_99 {I : Nat → Nat → Int32} {L : Nat → Int64} {Q : Option Value → (Nat → Nat → Int32) → (Nat → Int64) → Prop}   (K : Q (some (.int (1 : Int32))) (x_up (x_up I 2762 0 (1 : Int32)) 2760 0 (((x_up I 2762 0 (1 : Int32)) 2760 0) + (1 : Int32))) L) : XS mX1_mend 99 [(0, .ref 43)] [] I L Q := by
  refine x_aload_n 0 dX1_mend_99 rfl rfl ?_
  refine x_iconst (v := (1 : Int32)) dX1_mend_100 (by decide) ?_
  refine xs_putz 2762 dX1_mend_101 fl_X1_43 sh_43 rfl (Or.inr rfl) rfl rfl ?_
  refine x_aload_n 0 dX1_mend_104 rfl rfl ?_
  refine x_dup dX1_mend_105 rfl ?_
  refine xs_geti 2760 dX1_mend_106 fl_X1_37 sh_43 rfl rfl ?_
  refine x_iconst (v := (1 : Int32)) dX1_mend_109 (by decide) ?_
  refine x_iadd dX1_mend_110 ?_
  refine xs_puti 2760 dX1_mend_111 fl_X1_37 sh_43 rfl rfl rfl ?_
  refine x_iconst (v := (1 : Int32)) dX1_mend_114 (by decide) ?_
  exact xs_iret dX1_mend_115 rfl (x_nar _ (Or.inr rfl)) K
