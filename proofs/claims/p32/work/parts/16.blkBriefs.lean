/-! ===== blocks ===== -/
theorem bX0_findRepair_0 {I : Nat → Nat → Int32} {L : Nat → Int64} {Q : Option Value → (Nat → Nat → Int32) → (Nat → Int64) → Prop} {v1 : Int32} {v2 : Int32} {v3 : Int32} (hb1 : vp_in v1 8) (K : XS mX5_findWalk 0 [(0, .ref 16), (1, .int v1), (2, .int v3), (3, .int ((I 448 (v1.toNatClampNeg)) &&& (((1 : Int32) <<< (v2 &&& 31)) ^^^ (-1 : Int32)))), (4, .ref 32)] [] I L (fun r I' L' => XS mX0_findRepair 32 [(0, .ref 31), (4, .int (I 448 (v1.toNatClampNeg)))] (r.toList ++ []) I' L' Q)) : XS mX0_findRepair 0 [(0, .ref 31), (1, .int v1), (2, .int v2), (3, .int v3)] [] I L Q := by
  refine x_aload_n 0 dX0_findRepair_0 rfl rfl ?_
  refine xs_getr dX0_findRepair_1 fl_X0_46 sh_31 rfl rf_1984 ?_
  refine xs_getr dX0_findRepair_4 fl_X0_54 sh_1 rfl rf_72 ?_
  refine x_iload_n 1 dX0_findRepair_7 rfl rfl ?_
  refine xs_iald 448 (v1.toNatClampNeg) dX0_findRepair_8 sh_7 rfl rfl hb1 ?_
  refine x_istore [(0, .ref 31), (1, .int v1), (2, .int v2), (3, .int v3), (4, .int (I 448 (v1.toNatClampNeg)))] dX0_findRepair_9 (Nat.le_of_ble_eq_true rfl) rfl ?_
  refine x_aload_n 0 dX0_findRepair_11 rfl rfl ?_
  refine xs_getr dX0_findRepair_12 fl_X0_50 sh_31 rfl rf_1985 ?_
  refine x_iload_n 1 dX0_findRepair_15 rfl rfl ?_
  refine x_iload_n 3 dX0_findRepair_16 rfl rfl ?_
  refine x_iload 4 dX0_findRepair_17 rfl ?_
  refine x_iconst (v := (1 : Int32)) dX0_findRepair_19 (by decide) ?_
  refine x_iload_n 2 dX0_findRepair_20 rfl rfl ?_
  refine x_ishl dX0_findRepair_21 ?_
  refine x_iconst (v := (-1 : Int32)) dX0_findRepair_22 (by decide) ?_
  refine x_ixor dX0_findRepair_23 ?_
  refine x_iand dX0_findRepair_24 ?_
  refine x_aload_n 0 dX0_findRepair_25 rfl rfl ?_
  refine xs_getr dX0_findRepair_26 fl_X0_14 sh_31 rfl rf_1986 ?_
  refine x_sub [0, 4] rfl ?_
  exact xs_callV mX5_findWalk [.int v1, .int v3, .int ((I 448 (v1.toNatClampNeg)) &&& (((1 : Int32) <<< (v2 &&& 31)) ^^^ (-1 : Int32))), .ref 32] [] 16 5 4 _ rfl dX0_findRepair_29 ml_X0_59 qX5_findWalk rfl ⟨Nat.le_of_ble_eq_true rfl, Nat.le_of_ble_eq_true rfl⟩ ⟨rfl, rfl⟩ (Nat.le_of_ble_eq_true rfl) sh_16 (by decide) rfl (Nat.le_of_ble_eq_true rfl) (K)
theorem bX0_findRepair_32 {I : Nat → Nat → Int32} {L : Nat → Int64} {Q : Option Value → (Nat → Nat → Int32) → (Nat → Int64) → Prop} {v4 : Int32} {s0 : Int32}  (K1 : (s0 = 0) → XS mX0_findRepair 49 [] [] I L Q) (K2 : (¬ s0 = 0) → XS mX0_findRepair 35 [(0, .ref 31), (4, .int v4)] [] I L Q) : XS mX0_findRepair 32 [(0, .ref 31), (4, .int v4)] [.int s0] I L Q := by
  exact x_if_eq 49 dX0_findRepair_32 (by decide) (fun h => x_sub [] rfl (K1 h)) (fun h => K2 h)
theorem bX0_findRepair_35 {I : Nat → Nat → Int32} {L : Nat → Int64} {Q : Option Value → (Nat → Nat → Int32) → (Nat → Int64) → Prop} {v4 : Int32}  (K : XS mX0_shorten 0 [(0, .ref 31), (1, .int v4), (2, .int (0 : Int32))] [] I L (fun r I' L' => XS mX0_findRepair 42 [] (r.toList ++ []) I' L' Q)) : XS mX0_findRepair 35 [(0, .ref 31), (4, .int v4)] [] I L Q := by
  refine x_aload_n 0 dX0_findRepair_35 rfl rfl ?_
  refine x_iload 1 dX0_findRepair_36 rfl ?_
  refine x_iconst (v := (0 : Int32)) dX0_findRepair_38 (by decide) ?_
  refine x_sub [] rfl ?_
  exact xs_callV mX0_shorten [.int v4, .int (0 : Int32)] [] 31 0 2 _ rfl dX0_findRepair_39 ml_X0_65 qX0_shorten rfl ⟨Nat.le_of_ble_eq_true rfl, Nat.le_of_ble_eq_true rfl⟩ ⟨rfl, rfl⟩ (Nat.le_of_ble_eq_true rfl) sh_31 (by decide) rfl (Nat.le_of_ble_eq_true rfl) (K)
theorem bX0_findRepair_42 {I : Nat → Nat → Int32} {L : Nat → Int64} {Q : Option Value → (Nat → Nat → Int32) → (Nat → Int64) → Prop} {s0 : Int32}  (K1 : (s0 = 0) → XS mX0_findRepair 49 [] [] I L Q) (K2 : (¬ s0 = 0) → XS mX0_findRepair 45 [] [] I L Q) : XS mX0_findRepair 42 [] [.int s0] I L Q := by
  exact x_if_eq 49 dX0_findRepair_42 (by decide) (fun h => K1 h) (fun h => K2 h)
theorem bX0_findRepair_45 {I : Nat → Nat → Int32} {L : Nat → Int64} {Q : Option Value → (Nat → Nat → Int32) → (Nat → Int64) → Prop}   (K : XS mX0_findRepair 50 [] [.int (1 : Int32)] I L Q) : XS mX0_findRepair 45 [] [] I L Q := by
  refine x_iconst (v := (1 : Int32)) dX0_findRepair_45 (by decide) ?_
  exact x_goto 50 dX0_findRepair_46 (by decide) (K)
theorem bX0_findRepair_49 {I : Nat → Nat → Int32} {L : Nat → Int64} {Q : Option Value → (Nat → Nat → Int32) → (Nat → Int64) → Prop}   (K : XS mX0_findRepair 50 [] [.int (0 : Int32)] I L Q) : XS mX0_findRepair 49 [] [] I L Q := by
  refine x_iconst (v := (0 : Int32)) dX0_findRepair_49 (by decide) ?_
  exact K
theorem bX0_findRepair_50 {I : Nat → Nat → Int32} {L : Nat → Int64} {Q : Option Value → (Nat → Nat → Int32) → (Nat → Int64) → Prop} {s0 : Int32} (hz1 : s0 = 0 ∨ s0 = 1) (K : Q (some (.int s0)) I L) : XS mX0_findRepair 50 [] [.int s0] I L Q := by
  exact xs_iret dX0_findRepair_50 rfl (x_nar _ hz1) K
theorem bX0_findBrief_0 {I : Nat → Nat → Int32} {L : Nat → Int64} {Q : Option Value → (Nat → Nat → Int32) → (Nat → Int64) → Prop} {a1 : Nat}  (K : XS mX6_takeOver 0 [(0, .ref 32), (1, .ref a1)] [] I L (fun r I' L' => XS mX0_findBrief 8 [(0, .ref 31)] (r.toList ++ []) I' L' Q)) : XS mX0_findBrief 0 [(0, .ref 31), (1, .ref a1)] [] I L Q := by
  refine x_aload_n 0 dX0_findBrief_0 rfl rfl ?_
  refine xs_getr dX0_findBrief_1 fl_X0_14 sh_31 rfl rf_1986 ?_
  refine x_aload_n 1 dX0_findBrief_4 rfl rfl ?_
  refine x_sub [0] rfl ?_
  exact xs_callV mX6_takeOver [.ref a1] [] 32 6 1 _ rfl dX0_findBrief_5 ml_X0_69 qX6_takeOver rfl ⟨Nat.le_of_ble_eq_true rfl, Nat.le_of_ble_eq_true rfl⟩ ⟨rfl, rfl⟩ (Nat.le_of_ble_eq_true rfl) sh_32 (by decide) rfl (Nat.le_of_ble_eq_true rfl) (K)
theorem bX0_findBrief_8 {I : Nat → Nat → Int32} {L : Nat → Int64} {Q : Option Value → (Nat → Nat → Int32) → (Nat → Int64) → Prop}   (K1 : ((I 2049 0) ≤ 0) → XS mX0_findBrief 47 [] [] I L Q) (K2 : (¬ (I 2049 0) ≤ 0) → XS mX0_findBrief 18 [(0, .ref 31)] [] I L Q) : XS mX0_findBrief 8 [(0, .ref 31)] [] I L Q := by
  refine x_aload_n 0 dX0_findBrief_8 rfl rfl ?_
  refine xs_getr dX0_findBrief_9 fl_X0_14 sh_31 rfl rf_1986 ?_
  refine xs_geti 2049 dX0_findBrief_12 fl_X0_73 sh_32 rfl rfl ?_
  exact x_if_le 47 dX0_findBrief_15 (by decide) (fun h => x_sub [] rfl (K1 h)) (fun h => K2 h)
theorem bX0_findBrief_18 {I : Nat → Nat → Int32} {L : Nat → Int64} {Q : Option Value → (Nat → Nat → Int32) → (Nat → Int64) → Prop}  (hb1 : vp_in (I 2112 0) 8) (K : XS mX0_shorten 0 [(0, .ref 31), (1, .int (I 448 ((I 2112 0).toNatClampNeg))), (2, .int (1 : Int32))] [] I L (fun r I' L' => XS mX0_findBrief 40 [] (r.toList ++ []) I' L' Q)) : XS mX0_findBrief 18 [(0, .ref 31)] [] I L Q := by
  refine x_aload_n 0 dX0_findBrief_18 rfl rfl ?_
  refine x_aload_n 0 dX0_findBrief_19 rfl rfl ?_
  refine xs_getr dX0_findBrief_20 fl_X0_46 sh_31 rfl rf_1984 ?_
  refine xs_getr dX0_findBrief_23 fl_X0_54 sh_1 rfl rf_72 ?_
  refine x_aload_n 0 dX0_findBrief_26 rfl rfl ?_
  refine xs_getr dX0_findBrief_27 fl_X0_14 sh_31 rfl rf_1986 ?_
  refine xs_getr dX0_findBrief_30 fl_X0_77 sh_32 rfl rf_2048 ?_
  refine x_iconst (v := (0 : Int32)) dX0_findBrief_33 (by decide) ?_
  refine xs_iald 2112 (0) dX0_findBrief_34 sh_33 rfl (by decide) (x_vpin (by decide)) ?_
  refine xs_iald 448 ((I 2112 0).toNatClampNeg) dX0_findBrief_35 sh_7 rfl rfl hb1 ?_
  refine x_iconst (v := (1 : Int32)) dX0_findBrief_36 (by decide) ?_
  refine x_sub [] rfl ?_
  exact xs_callV mX0_shorten [.int (I 448 ((I 2112 0).toNatClampNeg)), .int (1 : Int32)] [] 31 0 2 _ rfl dX0_findBrief_37 ml_X0_65 qX0_shorten rfl ⟨Nat.le_of_ble_eq_true rfl, Nat.le_of_ble_eq_true rfl⟩ ⟨rfl, rfl⟩ (Nat.le_of_ble_eq_true rfl) sh_31 (by decide) rfl (Nat.le_of_ble_eq_true rfl) (K)
theorem bX0_findBrief_40 {I : Nat → Nat → Int32} {L : Nat → Int64} {Q : Option Value → (Nat → Nat → Int32) → (Nat → Int64) → Prop} {s0 : Int32}  (K1 : (s0 = 0) → XS mX0_findBrief 47 [] [] I L Q) (K2 : (¬ s0 = 0) → XS mX0_findBrief 43 [] [] I L Q) : XS mX0_findBrief 40 [] [.int s0] I L Q := by
  exact x_if_eq 47 dX0_findBrief_40 (by decide) (fun h => K1 h) (fun h => K2 h)
theorem bX0_findBrief_43 {I : Nat → Nat → Int32} {L : Nat → Int64} {Q : Option Value → (Nat → Nat → Int32) → (Nat → Int64) → Prop}   (K : XS mX0_findBrief 48 [] [.int (1 : Int32)] I L Q) : XS mX0_findBrief 43 [] [] I L Q := by
  refine x_iconst (v := (1 : Int32)) dX0_findBrief_43 (by decide) ?_
  exact x_goto 48 dX0_findBrief_44 (by decide) (K)
theorem bX0_findBrief_47 {I : Nat → Nat → Int32} {L : Nat → Int64} {Q : Option Value → (Nat → Nat → Int32) → (Nat → Int64) → Prop}   (K : XS mX0_findBrief 48 [] [.int (0 : Int32)] I L Q) : XS mX0_findBrief 47 [] [] I L Q := by
  refine x_iconst (v := (0 : Int32)) dX0_findBrief_47 (by decide) ?_
  exact K
theorem bX0_findBrief_48 {I : Nat → Nat → Int32} {L : Nat → Int64} {Q : Option Value → (Nat → Nat → Int32) → (Nat → Int64) → Prop} {s0 : Int32} (hz1 : s0 = 0 ∨ s0 = 1) (K : Q (some (.int s0)) I L) : XS mX0_findBrief 48 [] [.int s0] I L Q := by
  exact xs_iret dX0_findBrief_48 rfl (x_nar _ hz1) K
theorem bX0_shorten_0 {I : Nat → Nat → Int32} {L : Nat → Int64} {Q : Option Value → (Nat → Nat → Int32) → (Nat → Int64) → Prop} {v1 : Int32} {v2 : Int32}  (K : XS mX0_shorten 2 [(0, .ref 31), (1, .int v1), (2, .int v2), (3, .int (0 : Int32))] [] I L Q) : XS mX0_shorten 0 [(0, .ref 31), (1, .int v1), (2, .int v2)] [] I L Q := by
  refine x_iconst (v := (0 : Int32)) dX0_shorten_0 (by decide) ?_
  refine x_istore_n [(0, .ref 31), (1, .int v1), (2, .int v2), (3, .int (0 : Int32))] dX0_shorten_1 rfl (Nat.le_of_ble_eq_true rfl) rfl ?_
  exact K
theorem bX0_shorten_2 {I : Nat → Nat → Int32} {L : Nat → Int64} {Q : Option Value → (Nat → Nat → Int32) → (Nat → Int64) → Prop} {v1 : Int32} {v2 : Int32} {v3 : Int32}  (K1 : ((I 2049 0) ≤ v3) → XS mX0_shorten 88 [(0, .ref 31), (1, .int v1)] [] I L Q) (K2 : (¬ (I 2049 0) ≤ v3) → XS mX0_shorten 13 [(0, .ref 31), (1, .int v1), (2, .int v2), (3, .int v3)] [] I L Q) : XS mX0_shorten 2 [(0, .ref 31), (1, .int v1), (2, .int v2), (3, .int v3)] [] I L Q := by
  refine x_iload_n 3 dX0_shorten_2 rfl rfl ?_
  refine x_aload_n 0 dX0_shorten_3 rfl rfl ?_
  refine xs_getr dX0_shorten_4 fl_X0_14 sh_31 rfl rf_1986 ?_
  refine xs_geti 2049 dX0_shorten_7 fl_X0_73 sh_32 rfl rfl ?_
  exact x_icmp_ge 88 dX0_shorten_10 (by decide) (fun h => x_sub [0, 1] rfl (K1 h)) (fun h => K2 h)
theorem bX0_shorten_13 {I : Nat → Nat → Int32} {L : Nat → Int64} {Q : Option Value → (Nat → Nat → Int32) → (Nat → Int64) → Prop} {v1 : Int32} {v2 : Int32} {v3 : Int32} (hb1 : vp_in v3 8) (K : XS mX5_measure 0 [(0, .ref 16), (1, .int (I 2112 (v3.toNatClampNeg))), (2, .int (0 : Int32)), (3, .int v1)] [] I L (fun r I' L' => XS mX0_shorten 31 [(0, .ref 31), (1, .int v1), (2, .int v2), (3, .int v3)] (r.toList ++ []) I' L' Q)) : XS mX0_shorten 13 [(0, .ref 31), (1, .int v1), (2, .int v2), (3, .int v3)] [] I L Q := by
  refine x_aload_n 0 dX0_shorten_13 rfl rfl ?_
  refine xs_getr dX0_shorten_14 fl_X0_50 sh_31 rfl rf_1985 ?_
  refine x_aload_n 0 dX0_shorten_17 rfl rfl ?_
  refine xs_getr dX0_shorten_18 fl_X0_14 sh_31 rfl rf_1986 ?_
  refine xs_getr dX0_shorten_21 fl_X0_77 sh_32 rfl rf_2048 ?_
  refine x_iload_n 3 dX0_shorten_24 rfl rfl ?_
  refine xs_iald 2112 (v3.toNatClampNeg) dX0_shorten_25 sh_33 rfl rfl hb1 ?_
  refine x_iconst (v := (0 : Int32)) dX0_shorten_26 (by decide) ?_
  refine x_iload_n 1 dX0_shorten_27 rfl rfl ?_
  exact xs_callV mX5_measure [.int (I 2112 (v3.toNatClampNeg)), .int (0 : Int32), .int v1] [] 16 5 3 _ rfl dX0_shorten_28 ml_X0_80 qX5_measure rfl ⟨Nat.le_of_ble_eq_true rfl, Nat.le_of_ble_eq_true rfl⟩ ⟨rfl, rfl⟩ (Nat.le_of_ble_eq_true rfl) sh_16 (by decide) rfl (Nat.le_of_ble_eq_true rfl) (K)
theorem bX0_shorten_31 {I : Nat → Nat → Int32} {L : Nat → Int64} {Q : Option Value → (Nat → Nat → Int32) → (Nat → Int64) → Prop} {v1 : Int32} {v2 : Int32} {v3 : Int32}  (K : XS mX0_followedFrom 0 [(0, .ref 31), (1, .int v3)] [] I L (fun r I' L' => XS mX0_shorten 41 [(0, .ref 31), (1, .int v1), (2, .int v2), (3, .int v3)] (r.toList ++ [.int v3, .ref 34]) I' L' Q)) : XS mX0_shorten 31 [(0, .ref 31), (1, .int v1), (2, .int v2), (3, .int v3)] [] I L Q := by
  refine x_aload_n 0 dX0_shorten_31 rfl rfl ?_
  refine xs_getr dX0_shorten_32 fl_X0_20 sh_31 rfl rf_1987 ?_
  refine x_iload_n 3 dX0_shorten_35 rfl rfl ?_
  refine x_aload_n 0 dX0_shorten_36 rfl rfl ?_
  refine x_iload_n 3 dX0_shorten_37 rfl rfl ?_
  exact xs_callV mX0_followedFrom [.int v3] [.int v3, .ref 34] 31 0 1 _ rfl dX0_shorten_38 ml_X0_84 qX0_followedFrom rfl ⟨Nat.le_of_ble_eq_true rfl, Nat.le_of_ble_eq_true rfl⟩ ⟨rfl, rfl⟩ (Nat.le_of_ble_eq_true rfl) sh_31 (by decide) rfl (Nat.le_of_ble_eq_true rfl) (K)
theorem bX0_shorten_41 {I : Nat → Nat → Int32} {L : Nat → Int64} {Q : Option Value → (Nat → Nat → Int32) → (Nat → Int64) → Prop} {v1 : Int32} {v2 : Int32} {v3 : Int32} {s1 : Int32} {s2 : Int32} (hb1 : vp_in s1 8) (hb2 : vp_in v3 8) (K1 : (v2 = 0) → XS mX0_shorten 82 [(0, .ref 31), (1, .int v1), (2, .int v2), (3, .int v3)] [] (x_up (x_up I 2176 (s1.toNatClampNeg) s2) 2240 (v3.toNatClampNeg) v3) L Q) (K2 : (¬ v2 = 0) → XS mX0_shorten 53 [(0, .ref 31), (1, .int v1), (2, .int v2), (3, .int v3)] [] (x_up (x_up I 2176 (s1.toNatClampNeg) s2) 2240 (v3.toNatClampNeg) v3) L Q) : XS mX0_shorten 41 [(0, .ref 31), (1, .int v1), (2, .int v2), (3, .int v3)] [.int s2, .int s1, .ref 34] I L Q := by
  refine xs_iast 2176 (s1.toNatClampNeg) dX0_shorten_41 sh_34 rfl rfl hb1 ?_
  refine x_aload_n 0 dX0_shorten_42 rfl rfl ?_
  refine xs_getr dX0_shorten_43 fl_X0_24 sh_31 rfl rf_1988 ?_
  refine x_iload_n 3 dX0_shorten_46 rfl rfl ?_
  refine x_iload_n 3 dX0_shorten_47 rfl rfl ?_
  refine xs_iast 2240 (v3.toNatClampNeg) dX0_shorten_48 sh_35 rfl rfl hb2 ?_
  refine x_iload_n 2 dX0_shorten_49 rfl rfl ?_
  exact x_if_eq 82 dX0_shorten_50 (by decide) (fun h => K1 h) (fun h => K2 h)
theorem bX0_shorten_53 {I : Nat → Nat → Int32} {L : Nat → Int64} {Q : Option Value → (Nat → Nat → Int32) → (Nat → Int64) → Prop} {v1 : Int32} {v2 : Int32} {v3 : Int32} (hb1 : vp_in v3 8) (K : XS mX5_measure 0 [(0, .ref 16), (1, .int (I 2112 (v3.toNatClampNeg))), (2, .int (1 : Int32)), (3, .int v1)] [] I L (fun r I' L' => XS mX0_shorten 71 [(0, .ref 31), (1, .int v1), (2, .int v2), (3, .int v3)] (r.toList ++ []) I' L' Q)) : XS mX0_shorten 53 [(0, .ref 31), (1, .int v1), (2, .int v2), (3, .int v3)] [] I L Q := by
  refine x_aload_n 0 dX0_shorten_53 rfl rfl ?_
  refine xs_getr dX0_shorten_54 fl_X0_50 sh_31 rfl rf_1985 ?_
  refine x_aload_n 0 dX0_shorten_57 rfl rfl ?_
  refine xs_getr dX0_shorten_58 fl_X0_14 sh_31 rfl rf_1986 ?_
  refine xs_getr dX0_shorten_61 fl_X0_77 sh_32 rfl rf_2048 ?_
  refine x_iload_n 3 dX0_shorten_64 rfl rfl ?_
  refine xs_iald 2112 (v3.toNatClampNeg) dX0_shorten_65 sh_33 rfl rfl hb1 ?_
  refine x_iconst (v := (1 : Int32)) dX0_shorten_66 (by decide) ?_
  refine x_iload_n 1 dX0_shorten_67 rfl rfl ?_
  exact xs_callV mX5_measure [.int (I 2112 (v3.toNatClampNeg)), .int (1 : Int32), .int v1] [] 16 5 3 _ rfl dX0_shorten_68 ml_X0_80 qX5_measure rfl ⟨Nat.le_of_ble_eq_true rfl, Nat.le_of_ble_eq_true rfl⟩ ⟨rfl, rfl⟩ (Nat.le_of_ble_eq_true rfl) sh_16 (by decide) rfl (Nat.le_of_ble_eq_true rfl) (K)
theorem bX0_shorten_71 {I : Nat → Nat → Int32} {L : Nat → Int64} {Q : Option Value → (Nat → Nat → Int32) → (Nat → Int64) → Prop} {v1 : Int32} {v2 : Int32} {v3 : Int32}  (K : XS mX0_followedFrom 0 [(0, .ref 31), (1, .int v3)] [] I L (fun r I' L' => XS mX0_shorten 81 [(0, .ref 31), (1, .int v1), (2, .int v2), (3, .int v3)] (r.toList ++ [.int v3, .ref 35]) I' L' Q)) : XS mX0_shorten 71 [(0, .ref 31), (1, .int v1), (2, .int v2), (3, .int v3)] [] I L Q := by
  refine x_aload_n 0 dX0_shorten_71 rfl rfl ?_
  refine xs_getr dX0_shorten_72 fl_X0_24 sh_31 rfl rf_1988 ?_
  refine x_iload_n 3 dX0_shorten_75 rfl rfl ?_
  refine x_aload_n 0 dX0_shorten_76 rfl rfl ?_
  refine x_iload_n 3 dX0_shorten_77 rfl rfl ?_
  exact xs_callV mX0_followedFrom [.int v3] [.int v3, .ref 35] 31 0 1 _ rfl dX0_shorten_78 ml_X0_84 qX0_followedFrom rfl ⟨Nat.le_of_ble_eq_true rfl, Nat.le_of_ble_eq_true rfl⟩ ⟨rfl, rfl⟩ (Nat.le_of_ble_eq_true rfl) sh_31 (by decide) rfl (Nat.le_of_ble_eq_true rfl) (K)
theorem bX0_shorten_81 {I : Nat → Nat → Int32} {L : Nat → Int64} {Q : Option Value → (Nat → Nat → Int32) → (Nat → Int64) → Prop} {v1 : Int32} {v2 : Int32} {v3 : Int32} {s1 : Int32} {s2 : Int32} (hb1 : vp_in s1 8) (K : XS mX0_shorten 82 [(0, .ref 31), (1, .int v1), (2, .int v2), (3, .int v3)] [] (x_up I 2240 (s1.toNatClampNeg) s2) L Q) : XS mX0_shorten 81 [(0, .ref 31), (1, .int v1), (2, .int v2), (3, .int v3)] [.int s2, .int s1, .ref 35] I L Q := by
  refine xs_iast 2240 (s1.toNatClampNeg) dX0_shorten_81 sh_35 rfl rfl hb1 ?_
  exact K
theorem bX0_shorten_82 {I : Nat → Nat → Int32} {L : Nat → Int64} {Q : Option Value → (Nat → Nat → Int32) → (Nat → Int64) → Prop} {v1 : Int32} {v2 : Int32} {v3 : Int32}  (K : XS mX0_shorten 2 [(0, .ref 31), (1, .int v1), (2, .int v2), (3, .int (v3 + (1 : Int32)))] [] I L Q) : XS mX0_shorten 82 [(0, .ref 31), (1, .int v1), (2, .int v2), (3, .int v3)] [] I L Q := by
  refine x_iinc 3 (v3 + (1 : Int32)) [(0, .ref 31), (1, .int v1), (2, .int v2), (3, .int (v3 + (1 : Int32)))] dX0_shorten_82 rfl rfl (Nat.le_of_ble_eq_true rfl) rfl ?_
  exact x_goto 2 dX0_shorten_85 (by decide) (K)
theorem bX0_shorten_88 {I : Nat → Nat → Int32} {L : Nat → Int64} {Q : Option Value → (Nat → Nat → Int32) → (Nat → Int64) → Prop} {v1 : Int32} (hb1 : vp_in ((I 2049 0) - (1 : Int32)) 8) (K : XS mX0_shorten 110 [(0, .ref 31), (1, .int v1), (4, .int (((I 2049 0) - (1 : Int32)) - (1 : Int32)))] [] (x_up I 2368 (((I 2049 0) - (1 : Int32)).toNatClampNeg) (0 : Int32)) L Q) : XS mX0_shorten 88 [(0, .ref 31), (1, .int v1)] [] I L Q := by
  refine x_aload_n 0 dX0_shorten_88 rfl rfl ?_
  refine xs_getr dX0_shorten_89 fl_X0_14 sh_31 rfl rf_1986 ?_
  refine xs_geti 2049 dX0_shorten_92 fl_X0_73 sh_32 rfl rfl ?_
  refine x_iconst (v := (1 : Int32)) dX0_shorten_95 (by decide) ?_
  refine x_isub dX0_shorten_96 ?_
  refine x_istore_n [(0, .ref 31), (1, .int v1), (3, .int ((I 2049 0) - (1 : Int32)))] dX0_shorten_97 rfl (Nat.le_of_ble_eq_true rfl) rfl ?_
  refine x_aload_n 0 dX0_shorten_98 rfl rfl ?_
  refine xs_getr dX0_shorten_99 fl_X0_30 sh_31 rfl rf_1990 ?_
  refine x_iload_n 2 dX0_shorten_102 rfl rfl ?_
  refine x_iconst (v := (0 : Int32)) dX0_shorten_103 (by decide) ?_
  refine xs_iast 2368 (((I 2049 0) - (1 : Int32)).toNatClampNeg) dX0_shorten_104 sh_37 rfl rfl hb1 ?_
  refine x_iload_n 2 dX0_shorten_105 rfl rfl ?_
  refine x_iconst (v := (1 : Int32)) dX0_shorten_106 (by decide) ?_
  refine x_isub dX0_shorten_107 ?_
  refine x_istore [(0, .ref 31), (1, .int v1), (3, .int ((I 2049 0) - (1 : Int32))), (4, .int (((I 2049 0) - (1 : Int32)) - (1 : Int32)))] dX0_shorten_108 (Nat.le_of_ble_eq_true rfl) rfl ?_
  exact x_sub [0, 1, 3] rfl (K)
theorem bX0_shorten_110 {I : Nat → Nat → Int32} {L : Nat → Int64} {Q : Option Value → (Nat → Nat → Int32) → (Nat → Int64) → Prop} {v1 : Int32} {v4 : Int32}  (K1 : (v4 < 0) → XS mX0_shorten 161 [(0, .ref 31)] [] I L Q) (K2 : (¬ v4 < 0) → XS mX0_shorten 115 [(0, .ref 31), (1, .int v1), (4, .int v4)] [] I L Q) : XS mX0_shorten 110 [(0, .ref 31), (1, .int v1), (4, .int v4)] [] I L Q := by
  refine x_iload 2 dX0_shorten_110 rfl ?_
  exact x_if_lt 161 dX0_shorten_112 (by decide) (fun h => x_sub [0] rfl (K1 h)) (fun h => K2 h)
theorem bX0_shorten_115 {I : Nat → Nat → Int32} {L : Nat → Int64} {Q : Option Value → (Nat → Nat → Int32) → (Nat → Int64) → Prop} {v1 : Int32} {v4 : Int32} (hb1 : vp_in v4 8) (hb2 : vp_in (v4 + (1 : Int32)) 8) (K : XS mX0_linkIn 0 [(0, .ref 31), (1, .int v1), (2, .int (I 2112 (v4.toNatClampNeg))), (3, .int (I 2112 ((v4 + (1 : Int32)).toNatClampNeg)))] [] I L (fun r I' L' => XS mX0_shorten 148 [(0, .ref 31), (1, .int v1), (4, .int v4)] (r.toList ++ [.int v4, .ref 36]) I' L' Q)) : XS mX0_shorten 115 [(0, .ref 31), (1, .int v1), (4, .int v4)] [] I L Q := by
  refine x_aload_n 0 dX0_shorten_115 rfl rfl ?_
  refine xs_getr dX0_shorten_116 fl_X0_27 sh_31 rfl rf_1989 ?_
  refine x_iload 2 dX0_shorten_119 rfl ?_
  refine x_aload_n 0 dX0_shorten_121 rfl rfl ?_
  refine x_iload_n 1 dX0_shorten_122 rfl rfl ?_
  refine x_aload_n 0 dX0_shorten_123 rfl rfl ?_
  refine xs_getr dX0_shorten_124 fl_X0_14 sh_31 rfl rf_1986 ?_
  refine xs_getr dX0_shorten_127 fl_X0_77 sh_32 rfl rf_2048 ?_
  refine x_iload 2 dX0_shorten_130 rfl ?_
  refine xs_iald 2112 (v4.toNatClampNeg) dX0_shorten_132 sh_33 rfl rfl hb1 ?_
  refine x_aload_n 0 dX0_shorten_133 rfl rfl ?_
  refine xs_getr dX0_shorten_134 fl_X0_14 sh_31 rfl rf_1986 ?_
  refine xs_getr dX0_shorten_137 fl_X0_77 sh_32 rfl rf_2048 ?_
  refine x_iload 2 dX0_shorten_140 rfl ?_
  refine x_iconst (v := (1 : Int32)) dX0_shorten_142 (by decide) ?_
  refine x_iadd dX0_shorten_143 ?_
  refine xs_iald 2112 ((v4 + (1 : Int32)).toNatClampNeg) dX0_shorten_144 sh_33 rfl rfl hb2 ?_
  exact xs_callV mX0_linkIn [.int v1, .int (I 2112 (v4.toNatClampNeg)), .int (I 2112 ((v4 + (1 : Int32)).toNatClampNeg))] [.int v4, .ref 36] 31 0 3 _ rfl dX0_shorten_145 ml_X0_88 qX0_linkIn rfl ⟨Nat.le_of_ble_eq_true rfl, Nat.le_of_ble_eq_true rfl⟩ ⟨rfl, rfl⟩ (Nat.le_of_ble_eq_true rfl) sh_31 (by decide) rfl (Nat.le_of_ble_eq_true rfl) (K)
theorem bX0_shorten_148 {I : Nat → Nat → Int32} {L : Nat → Int64} {Q : Option Value → (Nat → Nat → Int32) → (Nat → Int64) → Prop} {v1 : Int32} {v4 : Int32} {s1 : Int32} {s2 : Int32} (hb1 : vp_in s1 8) (K : XS mX0_chooseFirst 0 [(0, .ref 31), (1, .int v4)] [] (x_up I 2304 (s1.toNatClampNeg) s2) L (fun r I' L' => XS mX0_shorten 155 [(0, .ref 31), (1, .int v1), (4, .int v4)] (r.toList ++ []) I' L' Q)) : XS mX0_shorten 148 [(0, .ref 31), (1, .int v1), (4, .int v4)] [.int s2, .int s1, .ref 36] I L Q := by
  refine xs_iast 2304 (s1.toNatClampNeg) dX0_shorten_148 sh_36 rfl rfl hb1 ?_
  refine x_aload_n 0 dX0_shorten_149 rfl rfl ?_
  refine x_iload 2 dX0_shorten_150 rfl ?_
  exact xs_callV mX0_chooseFirst [.int v4] [] 31 0 1 _ rfl dX0_shorten_152 ml_X0_92 qX0_chooseFirst rfl ⟨Nat.le_of_ble_eq_true rfl, Nat.le_of_ble_eq_true rfl⟩ ⟨rfl, rfl⟩ (Nat.le_of_ble_eq_true rfl) sh_31 (by decide) rfl (Nat.le_of_ble_eq_true rfl) (K)
theorem bX0_shorten_155 {I : Nat → Nat → Int32} {L : Nat → Int64} {Q : Option Value → (Nat → Nat → Int32) → (Nat → Int64) → Prop} {v1 : Int32} {v4 : Int32}  (K : XS mX0_shorten 110 [(0, .ref 31), (1, .int v1), (4, .int (v4 + (-1 : Int32)))] [] I L Q) : XS mX0_shorten 155 [(0, .ref 31), (1, .int v1), (4, .int v4)] [] I L Q := by
  refine x_iinc 2 (v4 + (-1 : Int32)) [(0, .ref 31), (1, .int v1), (4, .int (v4 + (-1 : Int32)))] dX0_shorten_155 rfl rfl (Nat.le_of_ble_eq_true rfl) rfl ?_
  exact x_goto 110 dX0_shorten_158 (by decide) (K)
theorem bX0_shorten_161 {I : Nat → Nat → Int32} {L : Nat → Int64} {Q : Option Value → (Nat → Nat → Int32) → (Nat → Int64) → Prop}   (K1 : ((I 2368 0) < (1000 : Int32)) → XS mX0_shorten 175 [(0, .ref 31)] [] I L Q) (K2 : (¬ (I 2368 0) < (1000 : Int32)) → XS mX0_shorten 173 [] [] I L Q) : XS mX0_shorten 161 [(0, .ref 31)] [] I L Q := by
  refine x_aload_n 0 dX0_shorten_161 rfl rfl ?_
  refine xs_getr dX0_shorten_162 fl_X0_30 sh_31 rfl rf_1990 ?_
  refine x_iconst (v := (0 : Int32)) dX0_shorten_165 (by decide) ?_
  refine xs_iald 2368 (0) dX0_shorten_166 sh_37 rfl (by decide) (x_vpin (by decide)) ?_
  refine x_sipush (v := (1000 : Int32)) dX0_shorten_167 (by decide) ?_
  exact x_icmp_lt 175 dX0_shorten_170 (by decide) (fun h => K1 h) (fun h => x_sub [] rfl (K2 h))
theorem bX0_shorten_173 {I : Nat → Nat → Int32} {L : Nat → Int64} {Q : Option Value → (Nat → Nat → Int32) → (Nat → Int64) → Prop}   (K : Q (some (.int (0 : Int32))) I L) : XS mX0_shorten 173 [] [] I L Q := by
  refine x_iconst (v := (0 : Int32)) dX0_shorten_173 (by decide) ?_
  exact xs_iret dX0_shorten_174 rfl (x_nar _ (Or.inl rfl)) K
theorem bX0_shorten_175 {I : Nat → Nat → Int32} {L : Nat → Int64} {Q : Option Value → (Nat → Nat → Int32) → (Nat → Int64) → Prop}   (K : XS mX0_writeFound 0 [(0, .ref 31)] [] I L (fun r I' L' => XS mX0_shorten 179 [] (r.toList ++ []) I' L' Q)) : XS mX0_shorten 175 [(0, .ref 31)] [] I L Q := by
  refine x_aload_n 0 dX0_shorten_175 rfl rfl ?_
  refine x_sub [] rfl ?_
  exact xs_callV mX0_writeFound [] [] 31 0 0 _ rfl dX0_shorten_176 ml_X0_95 qX0_writeFound rfl ⟨Nat.le_of_ble_eq_true rfl, Nat.le_of_ble_eq_true rfl⟩ ⟨rfl, rfl⟩ (Nat.le_of_ble_eq_true rfl) sh_31 (by decide) rfl (Nat.le_of_ble_eq_true rfl) (K)
theorem bX0_shorten_179 {I : Nat → Nat → Int32} {L : Nat → Int64} {Q : Option Value → (Nat → Nat → Int32) → (Nat → Int64) → Prop}   (K : Q (some (.int (1 : Int32))) I L) : XS mX0_shorten 179 [] [] I L Q := by
  refine x_iconst (v := (1 : Int32)) dX0_shorten_179 (by decide) ?_
  exact xs_iret dX0_shorten_180 rfl (x_nar _ (Or.inr rfl)) K
theorem bX0_followedFrom_0 {I : Nat → Nat → Int32} {L : Nat → Int64} {Q : Option Value → (Nat → Nat → Int32) → (Nat → Int64) → Prop} {v1 : Int32}  (K : XS mX0_followedFrom 2 [(0, .ref 31), (2, .int v1)] [] I L Q) : XS mX0_followedFrom 0 [(0, .ref 31), (1, .int v1)] [] I L Q := by
  refine x_iload_n 1 dX0_followedFrom_0 rfl rfl ?_
  refine x_istore_n [(0, .ref 31), (1, .int v1), (2, .int v1)] dX0_followedFrom_1 rfl (Nat.le_of_ble_eq_true rfl) rfl ?_
  exact x_sub [0, 2] rfl (K)
theorem bX0_followedFrom_2 {I : Nat → Nat → Int32} {L : Nat → Int64} {Q : Option Value → (Nat → Nat → Int32) → (Nat → Int64) → Prop} {v2 : Int32}  (K1 : (v2 ≤ 0) → XS mX0_followedFrom 42 [(2, .int v2)] [] I L Q) (K2 : (¬ v2 ≤ 0) → XS mX0_followedFrom 6 [(0, .ref 31), (2, .int v2)] [] I L Q) : XS mX0_followedFrom 2 [(0, .ref 31), (2, .int v2)] [] I L Q := by
  refine x_iload_n 1 dX0_followedFrom_2 rfl rfl ?_
  exact x_if_le 42 dX0_followedFrom_3 (by decide) (fun h => x_sub [1] rfl (K1 h)) (fun h => K2 h)
theorem bX0_followedFrom_6 {I : Nat → Nat → Int32} {L : Nat → Int64} {Q : Option Value → (Nat → Nat → Int32) → (Nat → Int64) → Prop} {v2 : Int32} (hb1 : vp_in (v2 - (1 : Int32)) 8) (K : XS mX5_nodeAhead 0 [(0, .ref 16), (1, .int (I 2112 ((v2 - (1 : Int32)).toNatClampNeg)))] [] I L (fun r I' L' => XS mX0_followedFrom 24 [(0, .ref 31), (2, .int v2)] (r.toList ++ []) I' L' Q)) : XS mX0_followedFrom 6 [(0, .ref 31), (2, .int v2)] [] I L Q := by
  refine x_aload_n 0 dX0_followedFrom_6 rfl rfl ?_
  refine xs_getr dX0_followedFrom_7 fl_X0_50 sh_31 rfl rf_1985 ?_
  refine x_aload_n 0 dX0_followedFrom_10 rfl rfl ?_
  refine xs_getr dX0_followedFrom_11 fl_X0_14 sh_31 rfl rf_1986 ?_
  refine xs_getr dX0_followedFrom_14 fl_X0_77 sh_32 rfl rf_2048 ?_
  refine x_iload_n 1 dX0_followedFrom_17 rfl rfl ?_
  refine x_iconst (v := (1 : Int32)) dX0_followedFrom_18 (by decide) ?_
  refine x_isub dX0_followedFrom_19 ?_
  refine xs_iald 2112 ((v2 - (1 : Int32)).toNatClampNeg) dX0_followedFrom_20 sh_33 rfl rfl hb1 ?_
  exact xs_callV mX5_nodeAhead [.int (I 2112 ((v2 - (1 : Int32)).toNatClampNeg))] [] 16 5 1 _ rfl dX0_followedFrom_21 ml_X0_98 qX5_nodeAhead rfl ⟨Nat.le_of_ble_eq_true rfl, Nat.le_of_ble_eq_true rfl⟩ ⟨rfl, rfl⟩ (Nat.le_of_ble_eq_true rfl) sh_16 (by decide) rfl (Nat.le_of_ble_eq_true rfl) (K)
theorem bX0_followedFrom_24 {I : Nat → Nat → Int32} {L : Nat → Int64} {Q : Option Value → (Nat → Nat → Int32) → (Nat → Int64) → Prop} {v2 : Int32} {s0 : Int32} (hb1 : vp_in v2 8) (K1 : (¬ s0 = (I 2112 (v2.toNatClampNeg))) → XS mX0_followedFrom 42 [(2, .int v2)] [] I L Q) (K2 : (s0 = (I 2112 (v2.toNatClampNeg))) → XS mX0_followedFrom 36 [(0, .ref 31), (2, .int v2)] [] I L Q) : XS mX0_followedFrom 24 [(0, .ref 31), (2, .int v2)] [.int s0] I L Q := by
  refine x_aload_n 0 dX0_followedFrom_24 rfl rfl ?_
  refine xs_getr dX0_followedFrom_25 fl_X0_14 sh_31 rfl rf_1986 ?_
  refine xs_getr dX0_followedFrom_28 fl_X0_77 sh_32 rfl rf_2048 ?_
  refine x_iload_n 1 dX0_followedFrom_31 rfl rfl ?_
  refine xs_iald 2112 (v2.toNatClampNeg) dX0_followedFrom_32 sh_33 rfl rfl hb1 ?_
  exact x_icmp_ne 42 dX0_followedFrom_33 (by decide) (fun h => x_sub [1] rfl (K1 h)) (fun h => K2 h)
theorem bX0_followedFrom_36 {I : Nat → Nat → Int32} {L : Nat → Int64} {Q : Option Value → (Nat → Nat → Int32) → (Nat → Int64) → Prop} {v2 : Int32}  (K : XS mX0_followedFrom 2 [(0, .ref 31), (2, .int (v2 + (-1 : Int32)))] [] I L Q) : XS mX0_followedFrom 36 [(0, .ref 31), (2, .int v2)] [] I L Q := by
  refine x_iinc 1 (v2 + (-1 : Int32)) [(0, .ref 31), (2, .int (v2 + (-1 : Int32)))] dX0_followedFrom_36 rfl rfl (Nat.le_of_ble_eq_true rfl) rfl ?_
  exact x_goto 2 dX0_followedFrom_39 (by decide) (K)
theorem bX0_followedFrom_42 {I : Nat → Nat → Int32} {L : Nat → Int64} {Q : Option Value → (Nat → Nat → Int32) → (Nat → Int64) → Prop} {v2 : Int32}  (K : Q (some (.int v2)) I L) : XS mX0_followedFrom 42 [(2, .int v2)] [] I L Q := by
  refine x_iload_n 0 dX0_followedFrom_42 rfl rfl ?_
  exact xs_iret dX0_followedFrom_43 rfl rfl K
theorem bX0_chooseFirst_0 {I : Nat → Nat → Int32} {L : Nat → Int64} {Q : Option Value → (Nat → Nat → Int32) → (Nat → Int64) → Prop} {v1 : Int32} (hb1 : vp_in v1 8) (K : XS mX0_chooseFirst 19 [(0, .ref 31), (1, .int v1), (2, .int (((x_up I 2368 (v1.toNatClampNeg) (1000 : Int32)) 2049 0) - (1 : Int32)))] [] (x_up I 2368 (v1.toNatClampNeg) (1000 : Int32)) L Q) : XS mX0_chooseFirst 0 [(0, .ref 31), (1, .int v1)] [] I L Q := by
  refine x_aload_n 0 dX0_chooseFirst_0 rfl rfl ?_
  refine xs_getr dX0_chooseFirst_1 fl_X0_30 sh_31 rfl rf_1990 ?_
  refine x_iload_n 1 dX0_chooseFirst_4 rfl rfl ?_
  refine x_sipush (v := (1000 : Int32)) dX0_chooseFirst_5 (by decide) ?_
  refine xs_iast 2368 (v1.toNatClampNeg) dX0_chooseFirst_8 sh_37 rfl rfl hb1 ?_
  refine x_aload_n 0 dX0_chooseFirst_9 rfl rfl ?_
  refine xs_getr dX0_chooseFirst_10 fl_X0_14 sh_31 rfl rf_1986 ?_
  refine xs_geti 2049 dX0_chooseFirst_13 fl_X0_73 sh_32 rfl rfl ?_
  refine x_iconst (v := (1 : Int32)) dX0_chooseFirst_16 (by decide) ?_
  refine x_isub dX0_chooseFirst_17 ?_
  refine x_istore_n [(0, .ref 31), (1, .int v1), (2, .int (((x_up I 2368 (v1.toNatClampNeg) (1000 : Int32)) 2049 0) - (1 : Int32)))] dX0_chooseFirst_18 rfl (Nat.le_of_ble_eq_true rfl) rfl ?_
  exact K
theorem bX0_chooseFirst_19 {I : Nat → Nat → Int32} {L : Nat → Int64} {Q : Option Value → (Nat → Nat → Int32) → (Nat → Int64) → Prop} {v1 : Int32} {v2 : Int32}  (K1 : (v2 ≤ v1) → XS mX0_chooseFirst 87 [] [] I L Q) (K2 : (¬ v2 ≤ v1) → XS mX0_chooseFirst 24 [(0, .ref 31), (1, .int v1), (2, .int v2)] [] I L Q) : XS mX0_chooseFirst 19 [(0, .ref 31), (1, .int v1), (2, .int v2)] [] I L Q := by
  refine x_iload_n 2 dX0_chooseFirst_19 rfl rfl ?_
  refine x_iload_n 1 dX0_chooseFirst_20 rfl rfl ?_
  exact x_icmp_le 87 dX0_chooseFirst_21 (by decide) (fun h => x_sub [] rfl (K1 h)) (fun h => K2 h)
theorem bX0_chooseFirst_24 {I : Nat → Nat → Int32} {L : Nat → Int64} {Q : Option Value → (Nat → Nat → Int32) → (Nat → Int64) → Prop} {v1 : Int32} {v2 : Int32}  (K : XS mX0_lowestKind 0 [(0, .ref 31), (1, .int v1), (2, .int v2)] [] I L (fun r I' L' => XS mX0_chooseFirst 30 [(0, .ref 31), (1, .int v1), (2, .int v2)] (r.toList ++ []) I' L' Q)) : XS mX0_chooseFirst 24 [(0, .ref 31), (1, .int v1), (2, .int v2)] [] I L Q := by
  refine x_aload_n 0 dX0_chooseFirst_24 rfl rfl ?_
  refine x_iload_n 1 dX0_chooseFirst_25 rfl rfl ?_
  refine x_iload_n 2 dX0_chooseFirst_26 rfl rfl ?_
  exact xs_callV mX0_lowestKind [.int v1, .int v2] [] 31 0 2 _ rfl dX0_chooseFirst_27 ml_X0_101 qX0_lowestKind rfl ⟨Nat.le_of_ble_eq_true rfl, Nat.le_of_ble_eq_true rfl⟩ ⟨rfl, rfl⟩ (Nat.le_of_ble_eq_true rfl) sh_31 (by decide) rfl (Nat.le_of_ble_eq_true rfl) (K)
theorem bX0_chooseFirst_30 {I : Nat → Nat → Int32} {L : Nat → Int64} {Q : Option Value → (Nat → Nat → Int32) → (Nat → Int64) → Prop} {v1 : Int32} {v2 : Int32} {s0 : Int32}  (K1 : (s0 = (-1 : Int32)) → XS mX0_chooseFirst 81 [(0, .ref 31), (1, .int v1), (2, .int v2)] [] I L Q) (K2 : (¬ s0 = (-1 : Int32)) → XS mX0_chooseFirst 36 [(0, .ref 31), (1, .int v1), (2, .int v2), (3, .int s0)] [] I L Q) : XS mX0_chooseFirst 30 [(0, .ref 31), (1, .int v1), (2, .int v2)] [.int s0] I L Q := by
  refine x_istore_n [(0, .ref 31), (1, .int v1), (2, .int v2), (3, .int s0)] dX0_chooseFirst_30 rfl (Nat.le_of_ble_eq_true rfl) rfl ?_
  refine x_iload_n 3 dX0_chooseFirst_31 rfl rfl ?_
  refine x_iconst (v := (-1 : Int32)) dX0_chooseFirst_32 (by decide) ?_
  exact x_icmp_eq 81 dX0_chooseFirst_33 (by decide) (fun h => x_sub [0, 1, 2] rfl (K1 h)) (fun h => K2 h)
theorem bX0_chooseFirst_36 {I : Nat → Nat → Int32} {L : Nat → Int64} {Q : Option Value → (Nat → Nat → Int32) → (Nat → Int64) → Prop} {v1 : Int32} {v2 : Int32} {v3 : Int32} (hb1 : vp_in v2 8) (hb2 : vp_in v1 8) (K1 : ((I 2368 (v1.toNatClampNeg)) ≤ ((I 2368 (v2.toNatClampNeg)) + (1 : Int32))) → XS mX0_chooseFirst 81 [(0, .ref 31), (1, .int v1), (2, .int v2)] [] I L Q) (K2 : (¬ (I 2368 (v1.toNatClampNeg)) ≤ ((I 2368 (v2.toNatClampNeg)) + (1 : Int32))) → XS mX0_chooseFirst 53 [(0, .ref 31), (1, .int v1), (2, .int v2), (3, .int v3)] [] I L Q) : XS mX0_chooseFirst 36 [(0, .ref 31), (1, .int v1), (2, .int v2), (3, .int v3)] [] I L Q := by
  refine x_aload_n 0 dX0_chooseFirst_36 rfl rfl ?_
  refine xs_getr dX0_chooseFirst_37 fl_X0_30 sh_31 rfl rf_1990 ?_
  refine x_iload_n 2 dX0_chooseFirst_40 rfl rfl ?_
  refine xs_iald 2368 (v2.toNatClampNeg) dX0_chooseFirst_41 sh_37 rfl rfl hb1 ?_
  refine x_iconst (v := (1 : Int32)) dX0_chooseFirst_42 (by decide) ?_
  refine x_iadd dX0_chooseFirst_43 ?_
  refine x_aload_n 0 dX0_chooseFirst_44 rfl rfl ?_
  refine xs_getr dX0_chooseFirst_45 fl_X0_30 sh_31 rfl rf_1990 ?_
  refine x_iload_n 1 dX0_chooseFirst_48 rfl rfl ?_
  refine xs_iald 2368 (v1.toNatClampNeg) dX0_chooseFirst_49 sh_37 rfl rfl hb2 ?_
  exact x_icmp_ge 81 dX0_chooseFirst_50 (by decide) (fun h => x_sub [0, 1, 2] rfl (K1 h)) (fun h => K2 h)
theorem bX0_chooseFirst_53 {I : Nat → Nat → Int32} {L : Nat → Int64} {Q : Option Value → (Nat → Nat → Int32) → (Nat → Int64) → Prop} {v1 : Int32} {v2 : Int32} {v3 : Int32} (hb1 : vp_in v2 8) (hb2 : vp_in v1 8) (hb3 : vp_in v1 8) (hb4 : vp_in v1 8) (K : XS mX0_chooseFirst 81 [(0, .ref 31), (1, .int v1), (2, .int v2)] [] (x_up (x_up (x_up I 2368 (v1.toNatClampNeg) ((I 2368 (v2.toNatClampNeg)) + (1 : Int32))) 2432 (v1.toNatClampNeg) v2) 2496 (v1.toNatClampNeg) v3) L Q) : XS mX0_chooseFirst 53 [(0, .ref 31), (1, .int v1), (2, .int v2), (3, .int v3)] [] I L Q := by
  refine x_aload_n 0 dX0_chooseFirst_53 rfl rfl ?_
  refine xs_getr dX0_chooseFirst_54 fl_X0_30 sh_31 rfl rf_1990 ?_
  refine x_iload_n 1 dX0_chooseFirst_57 rfl rfl ?_
  refine x_aload_n 0 dX0_chooseFirst_58 rfl rfl ?_
  refine xs_getr dX0_chooseFirst_59 fl_X0_30 sh_31 rfl rf_1990 ?_
  refine x_iload_n 2 dX0_chooseFirst_62 rfl rfl ?_
  refine xs_iald 2368 (v2.toNatClampNeg) dX0_chooseFirst_63 sh_37 rfl rfl hb1 ?_
  refine x_iconst (v := (1 : Int32)) dX0_chooseFirst_64 (by decide) ?_
  refine x_iadd dX0_chooseFirst_65 ?_
  refine xs_iast 2368 (v1.toNatClampNeg) dX0_chooseFirst_66 sh_37 rfl rfl hb2 ?_
  refine x_aload_n 0 dX0_chooseFirst_67 rfl rfl ?_
  refine xs_getr dX0_chooseFirst_68 fl_X0_33 sh_31 rfl rf_1991 ?_
  refine x_iload_n 1 dX0_chooseFirst_71 rfl rfl ?_
  refine x_iload_n 2 dX0_chooseFirst_72 rfl rfl ?_
  refine xs_iast 2432 (v1.toNatClampNeg) dX0_chooseFirst_73 sh_38 rfl rfl hb3 ?_
  refine x_aload_n 0 dX0_chooseFirst_74 rfl rfl ?_
  refine xs_getr dX0_chooseFirst_75 fl_X0_36 sh_31 rfl rf_1992 ?_
  refine x_iload_n 1 dX0_chooseFirst_78 rfl rfl ?_
  refine x_iload_n 3 dX0_chooseFirst_79 rfl rfl ?_
  refine xs_iast 2496 (v1.toNatClampNeg) dX0_chooseFirst_80 sh_39 rfl rfl hb4 ?_
  exact x_sub [0, 1, 2] rfl (K)
theorem bX0_chooseFirst_81 {I : Nat → Nat → Int32} {L : Nat → Int64} {Q : Option Value → (Nat → Nat → Int32) → (Nat → Int64) → Prop} {v1 : Int32} {v2 : Int32}  (K : XS mX0_chooseFirst 19 [(0, .ref 31), (1, .int v1), (2, .int (v2 + (-1 : Int32)))] [] I L Q) : XS mX0_chooseFirst 81 [(0, .ref 31), (1, .int v1), (2, .int v2)] [] I L Q := by
  refine x_iinc 2 (v2 + (-1 : Int32)) [(0, .ref 31), (1, .int v1), (2, .int (v2 + (-1 : Int32)))] dX0_chooseFirst_81 rfl rfl (Nat.le_of_ble_eq_true rfl) rfl ?_
  exact x_goto 19 dX0_chooseFirst_84 (by decide) (K)
theorem bX0_chooseFirst_87 {I : Nat → Nat → Int32} {L : Nat → Int64} {Q : Option Value → (Nat → Nat → Int32) → (Nat → Int64) → Prop}   (K : Q none I L) : XS mX0_chooseFirst 87 [] [] I L Q := by
  exact xs_end dX0_chooseFirst_87 rfl K
theorem bX0_lowestKind_0 {I : Nat → Nat → Int32} {L : Nat → Int64} {Q : Option Value → (Nat → Nat → Int32) → (Nat → Int64) → Prop} {v1 : Int32} {v2 : Int32} (hb1 : vp_in v2 8) (K1 : (v1 < (I 2176 (v2.toNatClampNeg))) → XS mX0_lowestKind 12 [(0, .ref 31), (1, .int v1), (2, .int v2)] [] I L Q) (K2 : (¬ v1 < (I 2176 (v2.toNatClampNeg))) → XS mX0_lowestKind 10 [] [] I L Q) : XS mX0_lowestKind 0 [(0, .ref 31), (1, .int v1), (2, .int v2)] [] I L Q := by
  refine x_aload_n 0 dX0_lowestKind_0 rfl rfl ?_
  refine xs_getr dX0_lowestKind_1 fl_X0_20 sh_31 rfl rf_1987 ?_
  refine x_iload_n 2 dX0_lowestKind_4 rfl rfl ?_
  refine xs_iald 2176 (v2.toNatClampNeg) dX0_lowestKind_5 sh_34 rfl rfl hb1 ?_
  refine x_iload_n 1 dX0_lowestKind_6 rfl rfl ?_
  exact x_icmp_gt 12 dX0_lowestKind_7 (by decide) (fun h => K1 h) (fun h => x_sub [] rfl (K2 h))
theorem bX0_lowestKind_10 {I : Nat → Nat → Int32} {L : Nat → Int64} {Q : Option Value → (Nat → Nat → Int32) → (Nat → Int64) → Prop}   (K : Q (some (.int (0 : Int32))) I L) : XS mX0_lowestKind 10 [] [] I L Q := by
  refine x_iconst (v := (0 : Int32)) dX0_lowestKind_10 (by decide) ?_
  exact xs_iret dX0_lowestKind_11 rfl rfl K
theorem bX0_lowestKind_12 {I : Nat → Nat → Int32} {L : Nat → Int64} {Q : Option Value → (Nat → Nat → Int32) → (Nat → Int64) → Prop} {v1 : Int32} {v2 : Int32} (hb1 : vp_in v2 8) (K1 : (v1 < (I 2240 (v2.toNatClampNeg))) → XS mX0_lowestKind 24 [(0, .ref 31), (1, .int v1), (2, .int v2)] [] I L Q) (K2 : (¬ v1 < (I 2240 (v2.toNatClampNeg))) → XS mX0_lowestKind 22 [] [] I L Q) : XS mX0_lowestKind 12 [(0, .ref 31), (1, .int v1), (2, .int v2)] [] I L Q := by
  refine x_aload_n 0 dX0_lowestKind_12 rfl rfl ?_
  refine xs_getr dX0_lowestKind_13 fl_X0_24 sh_31 rfl rf_1988 ?_
  refine x_iload_n 2 dX0_lowestKind_16 rfl rfl ?_
  refine xs_iald 2240 (v2.toNatClampNeg) dX0_lowestKind_17 sh_35 rfl rfl hb1 ?_
  refine x_iload_n 1 dX0_lowestKind_18 rfl rfl ?_
  exact x_icmp_gt 24 dX0_lowestKind_19 (by decide) (fun h => K1 h) (fun h => x_sub [] rfl (K2 h))
theorem bX0_lowestKind_22 {I : Nat → Nat → Int32} {L : Nat → Int64} {Q : Option Value → (Nat → Nat → Int32) → (Nat → Int64) → Prop}   (K : Q (some (.int (1 : Int32))) I L) : XS mX0_lowestKind 22 [] [] I L Q := by
  refine x_iconst (v := (1 : Int32)) dX0_lowestKind_22 (by decide) ?_
  exact xs_iret dX0_lowestKind_23 rfl rfl K
theorem bX0_lowestKind_24 {I : Nat → Nat → Int32} {L : Nat → Int64} {Q : Option Value → (Nat → Nat → Int32) → (Nat → Int64) → Prop} {v1 : Int32} {v2 : Int32}  (K1 : (¬ v2 = (v1 + (1 : Int32))) → XS mX0_lowestKind 45 [] [] I L Q) (K2 : (v2 = (v1 + (1 : Int32))) → XS mX0_lowestKind 31 [(0, .ref 31), (1, .int v1)] [] I L Q) : XS mX0_lowestKind 24 [(0, .ref 31), (1, .int v1), (2, .int v2)] [] I L Q := by
  refine x_iload_n 2 dX0_lowestKind_24 rfl rfl ?_
  refine x_iload_n 1 dX0_lowestKind_25 rfl rfl ?_
  refine x_iconst (v := (1 : Int32)) dX0_lowestKind_26 (by decide) ?_
  refine x_iadd dX0_lowestKind_27 ?_
  exact x_icmp_ne 45 dX0_lowestKind_28 (by decide) (fun h => x_sub [] rfl (K1 h)) (fun h => x_sub [0, 1] rfl (K2 h))
theorem bX0_lowestKind_31 {I : Nat → Nat → Int32} {L : Nat → Int64} {Q : Option Value → (Nat → Nat → Int32) → (Nat → Int64) → Prop} {v1 : Int32} (hb1 : vp_in v1 8) (K1 : ((I 2304 (v1.toNatClampNeg)) = (-1 : Int32)) → XS mX0_lowestKind 45 [] [] I L Q) (K2 : (¬ (I 2304 (v1.toNatClampNeg)) = (-1 : Int32)) → XS mX0_lowestKind 41 [] [] I L Q) : XS mX0_lowestKind 31 [(0, .ref 31), (1, .int v1)] [] I L Q := by
  refine x_aload_n 0 dX0_lowestKind_31 rfl rfl ?_
  refine xs_getr dX0_lowestKind_32 fl_X0_27 sh_31 rfl rf_1989 ?_
  refine x_iload_n 1 dX0_lowestKind_35 rfl rfl ?_
  refine xs_iald 2304 (v1.toNatClampNeg) dX0_lowestKind_36 sh_36 rfl rfl hb1 ?_
  refine x_iconst (v := (-1 : Int32)) dX0_lowestKind_37 (by decide) ?_
  exact x_icmp_eq 45 dX0_lowestKind_38 (by decide) (fun h => x_sub [] rfl (K1 h)) (fun h => x_sub [] rfl (K2 h))
theorem bX0_lowestKind_41 {I : Nat → Nat → Int32} {L : Nat → Int64} {Q : Option Value → (Nat → Nat → Int32) → (Nat → Int64) → Prop}   (K : XS mX0_lowestKind 46 [] [.int (2 : Int32)] I L Q) : XS mX0_lowestKind 41 [] [] I L Q := by
  refine x_iconst (v := (2 : Int32)) dX0_lowestKind_41 (by decide) ?_
  exact x_goto 46 dX0_lowestKind_42 (by decide) (K)
theorem bX0_lowestKind_45 {I : Nat → Nat → Int32} {L : Nat → Int64} {Q : Option Value → (Nat → Nat → Int32) → (Nat → Int64) → Prop}   (K : XS mX0_lowestKind 46 [] [.int (-1 : Int32)] I L Q) : XS mX0_lowestKind 45 [] [] I L Q := by
  refine x_iconst (v := (-1 : Int32)) dX0_lowestKind_45 (by decide) ?_
  exact K
theorem bX0_lowestKind_46 {I : Nat → Nat → Int32} {L : Nat → Int64} {Q : Option Value → (Nat → Nat → Int32) → (Nat → Int64) → Prop} {s0 : Int32}  (K : Q (some (.int s0)) I L) : XS mX0_lowestKind 46 [] [.int s0] I L Q := by
  exact xs_iret dX0_lowestKind_46 rfl rfl K
theorem bX0_linkIn_0 {I : Nat → Nat → Int32} {L : Nat → Int64} {Q : Option Value → (Nat → Nat → Int32) → (Nat → Int64) → Prop} {v1 : Int32} {v2 : Int32} {v3 : Int32}  (K : XS mX2_linkBetween 0 [(0, .ref 1), (1, .int v2), (2, .int v3)] [] I L (fun r I' L' => XS mX0_linkIn 9 [(1, .int v1)] (r.toList ++ []) I' L' Q)) : XS mX0_linkIn 0 [(0, .ref 31), (1, .int v1), (2, .int v2), (3, .int v3)] [] I L Q := by
  refine x_aload_n 0 dX0_linkIn_0 rfl rfl ?_
  refine xs_getr dX0_linkIn_1 fl_X0_46 sh_31 rfl rf_1984 ?_
  refine x_iload_n 2 dX0_linkIn_4 rfl rfl ?_
  refine x_iload_n 3 dX0_linkIn_5 rfl rfl ?_
  refine x_sub [1] rfl ?_
  exact xs_callV mX2_linkBetween [.int v2, .int v3] [] 1 2 2 _ rfl dX0_linkIn_6 ml_X0_105 qX2_linkBetween rfl ⟨Nat.le_of_ble_eq_true rfl, Nat.le_of_ble_eq_true rfl⟩ ⟨rfl, rfl⟩ (Nat.le_of_ble_eq_true rfl) sh_1 (by decide) rfl (Nat.le_of_ble_eq_true rfl) (K)
theorem bX0_linkIn_9 {I : Nat → Nat → Int32} {L : Nat → Int64} {Q : Option Value → (Nat → Nat → Int32) → (Nat → Int64) → Prop} {v1 : Int32} {s0 : Int32}  (K1 : (s0 = (-1 : Int32)) → XS mX0_linkIn 32 [] [] I L Q) (K2 : (¬ s0 = (-1 : Int32)) → XS mX0_linkIn 17 [(1, .int v1), (4, .int s0)] [] I L Q) : XS mX0_linkIn 9 [(1, .int v1)] [.int s0] I L Q := by
  refine x_istore [(1, .int v1), (4, .int s0)] dX0_linkIn_9 (Nat.le_of_ble_eq_true rfl) rfl ?_
  refine x_iload 1 dX0_linkIn_11 rfl ?_
  refine x_iconst (v := (-1 : Int32)) dX0_linkIn_13 (by decide) ?_
  exact x_icmp_eq 32 dX0_linkIn_14 (by decide) (fun h => x_sub [] rfl (K1 h)) (fun h => K2 h)
theorem bX0_linkIn_17 {I : Nat → Nat → Int32} {L : Nat → Int64} {Q : Option Value → (Nat → Nat → Int32) → (Nat → Int64) → Prop} {v1 : Int32} {v4 : Int32}  (K1 : (¬ ((v1 >>> (v4 &&& 31)) &&& (1 : Int32)) = (1 : Int32)) → XS mX0_linkIn 32 [] [] I L Q) (K2 : (((v1 >>> (v4 &&& 31)) &&& (1 : Int32)) = (1 : Int32)) → XS mX0_linkIn 27 [(4, .int v4)] [] I L Q) : XS mX0_linkIn 17 [(1, .int v1), (4, .int v4)] [] I L Q := by
  refine x_iload_n 0 dX0_linkIn_17 rfl rfl ?_
  refine x_iload 1 dX0_linkIn_18 rfl ?_
  refine x_ishr dX0_linkIn_20 ?_
  refine x_iconst (v := (1 : Int32)) dX0_linkIn_21 (by decide) ?_
  refine x_iand dX0_linkIn_22 ?_
  refine x_iconst (v := (1 : Int32)) dX0_linkIn_23 (by decide) ?_
  exact x_icmp_ne 32 dX0_linkIn_24 (by decide) (fun h => x_sub [] rfl (K1 h)) (fun h => x_sub [1] rfl (K2 h))
theorem bX0_linkIn_27 {I : Nat → Nat → Int32} {L : Nat → Int64} {Q : Option Value → (Nat → Nat → Int32) → (Nat → Int64) → Prop} {v4 : Int32}  (K : XS mX0_linkIn 33 [] [.int v4] I L Q) : XS mX0_linkIn 27 [(4, .int v4)] [] I L Q := by
  refine x_iload 0 dX0_linkIn_27 rfl ?_
  exact x_goto 33 dX0_linkIn_29 (by decide) (x_sub [] rfl (K))
theorem bX0_linkIn_32 {I : Nat → Nat → Int32} {L : Nat → Int64} {Q : Option Value → (Nat → Nat → Int32) → (Nat → Int64) → Prop}   (K : XS mX0_linkIn 33 [] [.int (-1 : Int32)] I L Q) : XS mX0_linkIn 32 [] [] I L Q := by
  refine x_iconst (v := (-1 : Int32)) dX0_linkIn_32 (by decide) ?_
  exact K
theorem bX0_linkIn_33 {I : Nat → Nat → Int32} {L : Nat → Int64} {Q : Option Value → (Nat → Nat → Int32) → (Nat → Int64) → Prop} {s0 : Int32}  (K : Q (some (.int s0)) I L) : XS mX0_linkIn 33 [] [.int s0] I L Q := by
  exact xs_iret dX0_linkIn_33 rfl rfl K
theorem bX0_writeFound_0 {I : Nat → Nat → Int32} {L : Nat → Int64} {Q : Option Value → (Nat → Nat → Int32) → (Nat → Int64) → Prop}   (K : XS mX0_writeFound 12 [(0, .ref 31), (1, .int (0 : Int32)), (2, .int (0 : Int32))] [] (x_up I 2562 0 (0 : Int32)) L Q) : XS mX0_writeFound 0 [(0, .ref 31)] [] I L Q := by
  refine x_aload_n 0 dX0_writeFound_0 rfl rfl ?_
  refine xs_getr dX0_writeFound_1 fl_X0_42 sh_31 rfl rf_1993 ?_
  refine x_iconst (v := (0 : Int32)) dX0_writeFound_4 (by decide) ?_
  refine xs_puti 2562 dX0_writeFound_5 fl_X0_108 sh_40 rfl rfl rfl ?_
  refine x_iconst (v := (0 : Int32)) dX0_writeFound_8 (by decide) ?_
  refine x_istore_n [(0, .ref 31), (1, .int (0 : Int32))] dX0_writeFound_9 rfl (Nat.le_of_ble_eq_true rfl) rfl ?_
  refine x_iconst (v := (0 : Int32)) dX0_writeFound_10 (by decide) ?_
  refine x_istore_n [(0, .ref 31), (1, .int (0 : Int32)), (2, .int (0 : Int32))] dX0_writeFound_11 rfl (Nat.le_of_ble_eq_true rfl) rfl ?_
  exact K
theorem bX0_writeFound_12 {I : Nat → Nat → Int32} {L : Nat → Int64} {Q : Option Value → (Nat → Nat → Int32) → (Nat → Int64) → Prop} {v1 : Int32} {v2 : Int32}  (K1 : ((8 : Int32) ≤ v2) → XS mX0_writeFound 100 [] [] I L Q) (K2 : (¬ (8 : Int32) ≤ v2) → XS mX0_writeFound 18 [(0, .ref 31), (1, .int v1), (2, .int v2)] [] I L Q) : XS mX0_writeFound 12 [(0, .ref 31), (1, .int v1), (2, .int v2)] [] I L Q := by
  refine x_iload_n 2 dX0_writeFound_12 rfl rfl ?_
  refine x_bipush (v := (8 : Int32)) dX0_writeFound_13 (by decide) ?_
  exact x_icmp_ge 100 dX0_writeFound_15 (by decide) (fun h => x_sub [] rfl (K1 h)) (fun h => K2 h)
theorem bX0_writeFound_18 {I : Nat → Nat → Int32} {L : Nat → Int64} {Q : Option Value → (Nat → Nat → Int32) → (Nat → Int64) → Prop} {v1 : Int32} {v2 : Int32}  (K1 : (((I 2049 0) - (1 : Int32)) ≤ v1) → XS mX0_writeFound 100 [] [] I L Q) (K2 : (¬ ((I 2049 0) - (1 : Int32)) ≤ v1) → XS mX0_writeFound 31 [(0, .ref 31), (1, .int v1), (2, .int v2)] [] I L Q) : XS mX0_writeFound 18 [(0, .ref 31), (1, .int v1), (2, .int v2)] [] I L Q := by
  refine x_iload_n 1 dX0_writeFound_18 rfl rfl ?_
  refine x_aload_n 0 dX0_writeFound_19 rfl rfl ?_
  refine xs_getr dX0_writeFound_20 fl_X0_14 sh_31 rfl rf_1986 ?_
  refine xs_geti 2049 dX0_writeFound_23 fl_X0_73 sh_32 rfl rfl ?_
  refine x_iconst (v := (1 : Int32)) dX0_writeFound_26 (by decide) ?_
  refine x_isub dX0_writeFound_27 ?_
  exact x_icmp_ge 100 dX0_writeFound_28 (by decide) (fun h => x_sub [] rfl (K1 h)) (fun h => K2 h)
theorem bX0_writeFound_31 {I : Nat → Nat → Int32} {L : Nat → Int64} {Q : Option Value → (Nat → Nat → Int32) → (Nat → Int64) → Prop} {v1 : Int32} {v2 : Int32} (hb1 : vp_in v1 8) (K1 : (¬ (I 2496 (v1.toNatClampNeg)) = (2 : Int32)) → XS mX0_writeFound 45 [(0, .ref 31), (1, .int v1), (2, .int v2)] [] I L Q) (K2 : ((I 2496 (v1.toNatClampNeg)) = (2 : Int32)) → XS mX0_writeFound 41 [(0, .ref 31), (1, .int v1), (2, .int v2)] [] I L Q) : XS mX0_writeFound 31 [(0, .ref 31), (1, .int v1), (2, .int v2)] [] I L Q := by
  refine x_aload_n 0 dX0_writeFound_31 rfl rfl ?_
  refine xs_getr dX0_writeFound_32 fl_X0_36 sh_31 rfl rf_1992 ?_
  refine x_iload_n 1 dX0_writeFound_35 rfl rfl ?_
  refine xs_iald 2496 (v1.toNatClampNeg) dX0_writeFound_36 sh_39 rfl rfl hb1 ?_
  refine x_iconst (v := (2 : Int32)) dX0_writeFound_37 (by decide) ?_
  exact x_icmp_ne 45 dX0_writeFound_38 (by decide) (fun h => K1 h) (fun h => K2 h)
theorem bX0_writeFound_41 {I : Nat → Nat → Int32} {L : Nat → Int64} {Q : Option Value → (Nat → Nat → Int32) → (Nat → Int64) → Prop} {v1 : Int32} {v2 : Int32}  (K : XS mX0_writeFound 46 [(0, .ref 31), (1, .int v1), (2, .int v2)] [.int (1 : Int32)] I L Q) : XS mX0_writeFound 41 [(0, .ref 31), (1, .int v1), (2, .int v2)] [] I L Q := by
  refine x_iconst (v := (1 : Int32)) dX0_writeFound_41 (by decide) ?_
  exact x_goto 46 dX0_writeFound_42 (by decide) (K)
theorem bX0_writeFound_45 {I : Nat → Nat → Int32} {L : Nat → Int64} {Q : Option Value → (Nat → Nat → Int32) → (Nat → Int64) → Prop} {v1 : Int32} {v2 : Int32}  (K : XS mX0_writeFound 46 [(0, .ref 31), (1, .int v1), (2, .int v2)] [.int (0 : Int32)] I L Q) : XS mX0_writeFound 45 [(0, .ref 31), (1, .int v1), (2, .int v2)] [] I L Q := by
  refine x_iconst (v := (0 : Int32)) dX0_writeFound_45 (by decide) ?_
  exact K
theorem bX0_writeFound_46 {I : Nat → Nat → Int32} {L : Nat → Int64} {Q : Option Value → (Nat → Nat → Int32) → (Nat → Int64) → Prop} {v1 : Int32} {v2 : Int32} {s0 : Int32} (hb1 : vp_in v1 8) (K1 : (s0 = 0) → XS mX0_writeFound 70 [(0, .ref 31), (1, .int v1), (2, .int v2)] [.int (I 2496 (v1.toNatClampNeg)), .ref 40] I L Q) (K2 : (¬ s0 = 0) → XS mX0_writeFound 61 [(0, .ref 31), (1, .int v1), (2, .int v2)] [.int (I 2496 (v1.toNatClampNeg)), .ref 40] I L Q) : XS mX0_writeFound 46 [(0, .ref 31), (1, .int v1), (2, .int v2)] [.int s0] I L Q := by
  refine x_istore_n [(0, .ref 31), (1, .int v1), (2, .int v2), (3, .int s0)] dX0_writeFound_46 rfl (Nat.le_of_ble_eq_true rfl) rfl ?_
  refine x_aload_n 0 dX0_writeFound_47 rfl rfl ?_
  refine xs_getr dX0_writeFound_48 fl_X0_42 sh_31 rfl rf_1993 ?_
  refine x_aload_n 0 dX0_writeFound_51 rfl rfl ?_
  refine xs_getr dX0_writeFound_52 fl_X0_36 sh_31 rfl rf_1992 ?_
  refine x_iload_n 1 dX0_writeFound_55 rfl rfl ?_
  refine xs_iald 2496 (v1.toNatClampNeg) dX0_writeFound_56 sh_39 rfl rfl hb1 ?_
  refine x_iload_n 3 dX0_writeFound_57 rfl rfl ?_
  exact x_if_eq 70 dX0_writeFound_58 (by decide) (fun h => x_sub [0, 1, 2] rfl (K1 h)) (fun h => x_sub [0, 1, 2] rfl (K2 h))
theorem bX0_writeFound_61 {I : Nat → Nat → Int32} {L : Nat → Int64} {Q : Option Value → (Nat → Nat → Int32) → (Nat → Int64) → Prop} {v1 : Int32} {v2 : Int32} {s1 : Int32} (hb1 : vp_in v1 8) (K : XS mX0_writeFound 84 [(0, .ref 31), (1, .int v1), (2, .int v2)] [.int (I 2304 (v1.toNatClampNeg)), .int s1, .ref 40] I L Q) : XS mX0_writeFound 61 [(0, .ref 31), (1, .int v1), (2, .int v2)] [.int s1, .ref 40] I L Q := by
  refine x_aload_n 0 dX0_writeFound_61 rfl rfl ?_
  refine xs_getr dX0_writeFound_62 fl_X0_27 sh_31 rfl rf_1989 ?_
  refine x_iload_n 1 dX0_writeFound_65 rfl rfl ?_
  refine xs_iald 2304 (v1.toNatClampNeg) dX0_writeFound_66 sh_36 rfl rfl hb1 ?_
  exact x_goto 84 dX0_writeFound_67 (by decide) (K)
theorem bX0_writeFound_70 {I : Nat → Nat → Int32} {L : Nat → Int64} {Q : Option Value → (Nat → Nat → Int32) → (Nat → Int64) → Prop} {v1 : Int32} {v2 : Int32} {s1 : Int32} (hb1 : vp_in v1 8) (hb2 : vp_in (I 2432 (v1.toNatClampNeg)) 8) (K : XS mX0_writeFound 84 [(0, .ref 31), (1, .int v1), (2, .int v2)] [.int (I 2112 ((I 2432 (v1.toNatClampNeg)).toNatClampNeg)), .int s1, .ref 40] I L Q) : XS mX0_writeFound 70 [(0, .ref 31), (1, .int v1), (2, .int v2)] [.int s1, .ref 40] I L Q := by
  refine x_aload_n 0 dX0_writeFound_70 rfl rfl ?_
  refine xs_getr dX0_writeFound_71 fl_X0_14 sh_31 rfl rf_1986 ?_
  refine xs_getr dX0_writeFound_74 fl_X0_77 sh_32 rfl rf_2048 ?_
  refine x_aload_n 0 dX0_writeFound_77 rfl rfl ?_
  refine xs_getr dX0_writeFound_78 fl_X0_33 sh_31 rfl rf_1991 ?_
  refine x_iload_n 1 dX0_writeFound_81 rfl rfl ?_
  refine xs_iald 2432 (v1.toNatClampNeg) dX0_writeFound_82 sh_38 rfl rfl hb1 ?_
  refine xs_iald 2112 ((I 2432 (v1.toNatClampNeg)).toNatClampNeg) dX0_writeFound_83 sh_33 rfl rfl hb2 ?_
  exact K
theorem bX0_writeFound_84 {I : Nat → Nat → Int32} {L : Nat → Int64} {Q : Option Value → (Nat → Nat → Int32) → (Nat → Int64) → Prop} {v1 : Int32} {v2 : Int32} {s1 : Int32} {s2 : Int32}  (K : XS mX7_put 0 [(0, .ref 40), (1, .int s1), (2, .int s2)] [] I L (fun r I' L' => XS mX0_writeFound 87 [(0, .ref 31), (1, .int v1), (2, .int v2)] (r.toList ++ []) I' L' Q)) : XS mX0_writeFound 84 [(0, .ref 31), (1, .int v1), (2, .int v2)] [.int s2, .int s1, .ref 40] I L Q := by
  exact xs_callV mX7_put [.int s1, .int s2] [] 40 7 2 _ rfl dX0_writeFound_84 ml_X0_111 qX7_put rfl ⟨Nat.le_of_ble_eq_true rfl, Nat.le_of_ble_eq_true rfl⟩ ⟨rfl, rfl⟩ (Nat.le_of_ble_eq_true rfl) sh_40 (by decide) rfl (Nat.le_of_ble_eq_true rfl) (K)
theorem bX0_writeFound_87 {I : Nat → Nat → Int32} {L : Nat → Int64} {Q : Option Value → (Nat → Nat → Int32) → (Nat → Int64) → Prop} {v1 : Int32} {v2 : Int32} (hb1 : vp_in v1 8) (K : XS mX0_writeFound 12 [(0, .ref 31), (1, .int (I 2432 (v1.toNatClampNeg))), (2, .int (v2 + (1 : Int32)))] [] I L Q) : XS mX0_writeFound 87 [(0, .ref 31), (1, .int v1), (2, .int v2)] [] I L Q := by
  refine x_aload_n 0 dX0_writeFound_87 rfl rfl ?_
  refine xs_getr dX0_writeFound_88 fl_X0_33 sh_31 rfl rf_1991 ?_
  refine x_iload_n 1 dX0_writeFound_91 rfl rfl ?_
  refine xs_iald 2432 (v1.toNatClampNeg) dX0_writeFound_92 sh_38 rfl rfl hb1 ?_
  refine x_istore_n [(0, .ref 31), (1, .int (I 2432 (v1.toNatClampNeg))), (2, .int v2)] dX0_writeFound_93 rfl (Nat.le_of_ble_eq_true rfl) rfl ?_
  refine x_iinc 2 (v2 + (1 : Int32)) [(0, .ref 31), (1, .int (I 2432 (v1.toNatClampNeg))), (2, .int (v2 + (1 : Int32)))] dX0_writeFound_94 rfl rfl (Nat.le_of_ble_eq_true rfl) rfl ?_
  exact x_goto 12 dX0_writeFound_97 (by decide) (K)
theorem bX0_writeFound_100 {I : Nat → Nat → Int32} {L : Nat → Int64} {Q : Option Value → (Nat → Nat → Int32) → (Nat → Int64) → Prop}   (K : Q none I L) : XS mX0_writeFound 100 [] [] I L Q := by
  exact xs_end dX0_writeFound_100 rfl K
theorem bX4_lookAround_0 {I : Nat → Nat → Int32} {L : Nat → Int64} {Q : Option Value → (Nat → Nat → Int32) → (Nat → Int64) → Prop}   (K : XS mX4_lookAround 2 [(0, .ref 20), (1, .int (0 : Int32))] [] I L Q) : XS mX4_lookAround 0 [(0, .ref 20)] [] I L Q := by
  refine x_iconst (v := (0 : Int32)) dX4_lookAround_0 (by decide) ?_
  refine x_istore_n [(0, .ref 20), (1, .int (0 : Int32))] dX4_lookAround_1 rfl (Nat.le_of_ble_eq_true rfl) rfl ?_
  exact K
theorem bX4_lookAround_2 {I : Nat → Nat → Int32} {L : Nat → Int64} {Q : Option Value → (Nat → Nat → Int32) → (Nat → Int64) → Prop} {v1 : Int32}  (K1 : ((I 64 0) ≤ v1) → XS mX4_lookAround 24 [] [] I L Q) (K2 : (¬ (I 64 0) ≤ v1) → XS mX4_lookAround 13 [(0, .ref 20), (1, .int v1)] [] I L Q) : XS mX4_lookAround 2 [(0, .ref 20), (1, .int v1)] [] I L Q := by
  refine x_iload_n 1 dX4_lookAround_2 rfl rfl ?_
  refine x_aload_n 0 dX4_lookAround_3 rfl rfl ?_
  refine xs_getr dX4_lookAround_4 fl_X4_31 sh_20 rfl rf_1280 ?_
  refine xs_geti 64 dX4_lookAround_7 fl_X4_39 sh_1 rfl rfl ?_
  exact x_icmp_ge 24 dX4_lookAround_10 (by decide) (fun h => x_sub [] rfl (K1 h)) (fun h => K2 h)
theorem bX4_lookAround_13 {I : Nat → Nat → Int32} {L : Nat → Int64} {Q : Option Value → (Nat → Nat → Int32) → (Nat → Int64) → Prop} {v1 : Int32}  (K : XS mX4_lookTowards 0 [(0, .ref 20), (1, .int v1)] [] I L (fun r I' L' => XS mX4_lookAround 18 [(0, .ref 20), (1, .int v1)] (r.toList ++ []) I' L' Q)) : XS mX4_lookAround 13 [(0, .ref 20), (1, .int v1)] [] I L Q := by
  refine x_aload_n 0 dX4_lookAround_13 rfl rfl ?_
  refine x_iload_n 1 dX4_lookAround_14 rfl rfl ?_
  exact xs_callV mX4_lookTowards [.int v1] [] 20 4 1 _ rfl dX4_lookAround_15 ml_X4_45 qX4_lookTowards rfl ⟨Nat.le_of_ble_eq_true rfl, Nat.le_of_ble_eq_true rfl⟩ ⟨rfl, rfl⟩ (Nat.le_of_ble_eq_true rfl) sh_20 (by decide) rfl (Nat.le_of_ble_eq_true rfl) (K)
theorem bX4_lookAround_18 {I : Nat → Nat → Int32} {L : Nat → Int64} {Q : Option Value → (Nat → Nat → Int32) → (Nat → Int64) → Prop} {v1 : Int32}  (K : XS mX4_lookAround 2 [(0, .ref 20), (1, .int (v1 + (1 : Int32)))] [] I L Q) : XS mX4_lookAround 18 [(0, .ref 20), (1, .int v1)] [] I L Q := by
  refine x_iinc 1 (v1 + (1 : Int32)) [(0, .ref 20), (1, .int (v1 + (1 : Int32)))] dX4_lookAround_18 rfl rfl (Nat.le_of_ble_eq_true rfl) rfl ?_
  exact x_goto 2 dX4_lookAround_21 (by decide) (K)
theorem bX4_lookAround_24 {I : Nat → Nat → Int32} {L : Nat → Int64} {Q : Option Value → (Nat → Nat → Int32) → (Nat → Int64) → Prop}   (K : Q none I L) : XS mX4_lookAround 24 [] [] I L Q := by
  exact xs_end dX4_lookAround_24 rfl K
theorem bX4_lookTowards_0 {I : Nat → Nat → Int32} {L : Nat → Int64} {Q : Option Value → (Nat → Nat → Int32) → (Nat → Int64) → Prop} {v1 : Int32}  (K : XS mX5_measure 0 [(0, .ref 16), (1, .int v1), (2, .int (0 : Int32)), (3, .int (I 66 0))] [] I L (fun r I' L' => XS mX4_lookTowards 21 [(0, .ref 20), (1, .int v1), (2, .int (v1 * (8 : Int32)))] (r.toList ++ []) I' L' Q)) : XS mX4_lookTowards 0 [(0, .ref 20), (1, .int v1)] [] I L Q := by
  refine x_iload_n 1 dX4_lookTowards_0 rfl rfl ?_
  refine x_bipush (v := (8 : Int32)) dX4_lookTowards_1 (by decide) ?_
  refine x_imul dX4_lookTowards_3 ?_
  refine x_istore_n [(0, .ref 20), (1, .int v1), (2, .int (v1 * (8 : Int32)))] dX4_lookTowards_4 rfl (Nat.le_of_ble_eq_true rfl) rfl ?_
  refine x_aload_n 0 dX4_lookTowards_5 rfl rfl ?_
  refine xs_getr dX4_lookTowards_6 fl_X4_35 sh_20 rfl rf_1281 ?_
  refine x_iload_n 1 dX4_lookTowards_9 rfl rfl ?_
  refine x_iconst (v := (0 : Int32)) dX4_lookTowards_10 (by decide) ?_
  refine x_aload_n 0 dX4_lookTowards_11 rfl rfl ?_
  refine xs_getr dX4_lookTowards_12 fl_X4_31 sh_20 rfl rf_1280 ?_
  refine xs_geti 66 dX4_lookTowards_15 fl_X4_48 sh_1 rfl rfl ?_
  exact xs_callV mX5_measure [.int v1, .int (0 : Int32), .int (I 66 0)] [] 16 5 3 _ rfl dX4_lookTowards_18 ml_X4_51 qX5_measure rfl ⟨Nat.le_of_ble_eq_true rfl, Nat.le_of_ble_eq_true rfl⟩ ⟨rfl, rfl⟩ (Nat.le_of_ble_eq_true rfl) sh_16 (by decide) rfl (Nat.le_of_ble_eq_true rfl) (K)
theorem bX4_lookTowards_21 {I : Nat → Nat → Int32} {L : Nat → Int64} {Q : Option Value → (Nat → Nat → Int32) → (Nat → Int64) → Prop} {v1 : Int32} {v2 : Int32}  (K : XS mX4_lookTowards 23 [(0, .ref 20), (1, .int v1), (2, .int v2), (3, .int (0 : Int32))] [] I L Q) : XS mX4_lookTowards 21 [(0, .ref 20), (1, .int v1), (2, .int v2)] [] I L Q := by
  refine x_iconst (v := (0 : Int32)) dX4_lookTowards_21 (by decide) ?_
  refine x_istore_n [(0, .ref 20), (1, .int v1), (2, .int v2), (3, .int (0 : Int32))] dX4_lookTowards_22 rfl (Nat.le_of_ble_eq_true rfl) rfl ?_
  exact K
theorem bX4_lookTowards_23 {I : Nat → Nat → Int32} {L : Nat → Int64} {Q : Option Value → (Nat → Nat → Int32) → (Nat → Int64) → Prop} {v1 : Int32} {v2 : Int32} {v3 : Int32}  (K1 : ((I 64 0) ≤ v3) → XS mX4_lookTowards 56 [(0, .ref 20), (1, .int v1), (2, .int v2)] [] I L Q) (K2 : (¬ (I 64 0) ≤ v3) → XS mX4_lookTowards 34 [(0, .ref 20), (1, .int v1), (2, .int v2), (3, .int v3)] [] I L Q) : XS mX4_lookTowards 23 [(0, .ref 20), (1, .int v1), (2, .int v2), (3, .int v3)] [] I L Q := by
  refine x_iload_n 3 dX4_lookTowards_23 rfl rfl ?_
  refine x_aload_n 0 dX4_lookTowards_24 rfl rfl ?_
  refine xs_getr dX4_lookTowards_25 fl_X4_31 sh_20 rfl rf_1280 ?_
  refine xs_geti 64 dX4_lookTowards_28 fl_X4_39 sh_1 rfl rfl ?_
  exact x_icmp_ge 56 dX4_lookTowards_31 (by decide) (fun h => x_sub [0, 1, 2] rfl (K1 h)) (fun h => K2 h)
theorem bX4_lookTowards_34 {I : Nat → Nat → Int32} {L : Nat → Int64} {Q : Option Value → (Nat → Nat → Int32) → (Nat → Int64) → Prop} {v1 : Int32} {v2 : Int32} {v3 : Int32}  (K : XS mX5_nodeAhead 0 [(0, .ref 16), (1, .int v3)] [] I L (fun r I' L' => XS mX4_lookTowards 49 [(0, .ref 20), (1, .int v1), (2, .int v2), (3, .int v3)] (r.toList ++ [.int (v2 + v3), .ref 22]) I' L' Q)) : XS mX4_lookTowards 34 [(0, .ref 20), (1, .int v1), (2, .int v2), (3, .int v3)] [] I L Q := by
  refine x_aload_n 0 dX4_lookTowards_34 rfl rfl ?_
  refine xs_getr dX4_lookTowards_35 fl_X4_15 sh_20 rfl rf_1283 ?_
  refine x_iload_n 2 dX4_lookTowards_38 rfl rfl ?_
  refine x_iload_n 3 dX4_lookTowards_39 rfl rfl ?_
  refine x_iadd dX4_lookTowards_40 ?_
  refine x_aload_n 0 dX4_lookTowards_41 rfl rfl ?_
  refine xs_getr dX4_lookTowards_42 fl_X4_35 sh_20 rfl rf_1281 ?_
  refine x_iload_n 3 dX4_lookTowards_45 rfl rfl ?_
  exact xs_callV mX5_nodeAhead [.int v3] [.int (v2 + v3), .ref 22] 16 5 1 _ rfl dX4_lookTowards_46 ml_X4_57 qX5_nodeAhead rfl ⟨Nat.le_of_ble_eq_true rfl, Nat.le_of_ble_eq_true rfl⟩ ⟨rfl, rfl⟩ (Nat.le_of_ble_eq_true rfl) sh_16 (by decide) rfl (Nat.le_of_ble_eq_true rfl) (K)
theorem bX4_lookTowards_49 {I : Nat → Nat → Int32} {L : Nat → Int64} {Q : Option Value → (Nat → Nat → Int32) → (Nat → Int64) → Prop} {v1 : Int32} {v2 : Int32} {v3 : Int32} {s1 : Int32} {s2 : Int32} (hb1 : vp_in s1 64) (K : XS mX4_lookTowards 23 [(0, .ref 20), (1, .int v1), (2, .int v2), (3, .int (v3 + (1 : Int32)))] [] (x_up I 1408 (s1.toNatClampNeg) s2) L Q) : XS mX4_lookTowards 49 [(0, .ref 20), (1, .int v1), (2, .int v2), (3, .int v3)] [.int s2, .int s1, .ref 22] I L Q := by
  refine xs_iast 1408 (s1.toNatClampNeg) dX4_lookTowards_49 sh_22 rfl rfl hb1 ?_
  refine x_iinc 3 (v3 + (1 : Int32)) [(0, .ref 20), (1, .int v1), (2, .int v2), (3, .int (v3 + (1 : Int32)))] dX4_lookTowards_50 rfl rfl (Nat.le_of_ble_eq_true rfl) rfl ?_
  exact x_goto 23 dX4_lookTowards_53 (by decide) (K)
theorem bX4_lookTowards_56 {I : Nat → Nat → Int32} {L : Nat → Int64} {Q : Option Value → (Nat → Nat → Int32) → (Nat → Int64) → Prop} {v1 : Int32} {v2 : Int32}  (K : XS mX4_lookTowards 58 [(0, .ref 20), (1, .int v1), (2, .int v2), (3, .int (0 : Int32))] [] I L Q) : XS mX4_lookTowards 56 [(0, .ref 20), (1, .int v1), (2, .int v2)] [] I L Q := by
  refine x_iconst (v := (0 : Int32)) dX4_lookTowards_56 (by decide) ?_
  refine x_istore_n [(0, .ref 20), (1, .int v1), (2, .int v2), (3, .int (0 : Int32))] dX4_lookTowards_57 rfl (Nat.le_of_ble_eq_true rfl) rfl ?_
  exact K
theorem bX4_lookTowards_58 {I : Nat → Nat → Int32} {L : Nat → Int64} {Q : Option Value → (Nat → Nat → Int32) → (Nat → Int64) → Prop} {v1 : Int32} {v2 : Int32} {v3 : Int32}  (K1 : ((I 64 0) ≤ v3) → XS mX4_lookTowards 144 [] [] I L Q) (K2 : (¬ (I 64 0) ≤ v3) → XS mX4_lookTowards 69 [(0, .ref 20), (1, .int v1), (2, .int v2), (3, .int v3)] [] I L Q) : XS mX4_lookTowards 58 [(0, .ref 20), (1, .int v1), (2, .int v2), (3, .int v3)] [] I L Q := by
  refine x_iload_n 3 dX4_lookTowards_58 rfl rfl ?_
  refine x_aload_n 0 dX4_lookTowards_59 rfl rfl ?_
  refine xs_getr dX4_lookTowards_60 fl_X4_31 sh_20 rfl rf_1280 ?_
  refine xs_geti 64 dX4_lookTowards_63 fl_X4_39 sh_1 rfl rfl ?_
  exact x_icmp_ge 144 dX4_lookTowards_66 (by decide) (fun h => x_sub [] rfl (K1 h)) (fun h => K2 h)
theorem bX4_lookTowards_69 {I : Nat → Nat → Int32} {L : Nat → Int64} {Q : Option Value → (Nat → Nat → Int32) → (Nat → Int64) → Prop} {v1 : Int32} {v2 : Int32} {v3 : Int32} (hb1 : vp_in (v2 + v3) 64) (hb2 : vp_in (v2 + v3) 64) (hb3 : vp_in v3 8) (K1 : (((x_up I 1344 ((v2 + v3).toNatClampNeg) (I 1408 ((v2 + v3).toNatClampNeg))) 448 (v3.toNatClampNeg)) = ((x_up I 1344 ((v2 + v3).toNatClampNeg) (I 1408 ((v2 + v3).toNatClampNeg))) 66 0)) → XS mX4_lookTowards 138 [(0, .ref 20), (1, .int v1), (2, .int v2), (3, .int v3)] [] (x_up I 1344 ((v2 + v3).toNatClampNeg) (I 1408 ((v2 + v3).toNatClampNeg))) L Q) (K2 : (¬ ((x_up I 1344 ((v2 + v3).toNatClampNeg) (I 1408 ((v2 + v3).toNatClampNeg))) 448 (v3.toNatClampNeg)) = ((x_up I 1344 ((v2 + v3).toNatClampNeg) (I 1408 ((v2 + v3).toNatClampNeg))) 66 0)) → XS mX4_lookTowards 104 [(0, .ref 20), (1, .int v1), (2, .int v2), (3, .int v3)] [] (x_up I 1344 ((v2 + v3).toNatClampNeg) (I 1408 ((v2 + v3).toNatClampNeg))) L Q) : XS mX4_lookTowards 69 [(0, .ref 20), (1, .int v1), (2, .int v2), (3, .int v3)] [] I L Q := by
  refine x_aload_n 0 dX4_lookTowards_69 rfl rfl ?_
  refine xs_getr dX4_lookTowards_70 fl_X4_9 sh_20 rfl rf_1282 ?_
  refine x_iload_n 2 dX4_lookTowards_73 rfl rfl ?_
  refine x_iload_n 3 dX4_lookTowards_74 rfl rfl ?_
  refine x_iadd dX4_lookTowards_75 ?_
  refine x_aload_n 0 dX4_lookTowards_76 rfl rfl ?_
  refine xs_getr dX4_lookTowards_77 fl_X4_15 sh_20 rfl rf_1283 ?_
  refine x_iload_n 2 dX4_lookTowards_80 rfl rfl ?_
  refine x_iload_n 3 dX4_lookTowards_81 rfl rfl ?_
  refine x_iadd dX4_lookTowards_82 ?_
  refine xs_iald 1408 ((v2 + v3).toNatClampNeg) dX4_lookTowards_83 sh_22 rfl rfl hb1 ?_
  refine xs_iast 1344 ((v2 + v3).toNatClampNeg) dX4_lookTowards_84 sh_21 rfl rfl hb2 ?_
  refine x_aload_n 0 dX4_lookTowards_85 rfl rfl ?_
  refine xs_getr dX4_lookTowards_86 fl_X4_31 sh_20 rfl rf_1280 ?_
  refine xs_getr dX4_lookTowards_89 fl_X4_61 sh_1 rfl rf_72 ?_
  refine x_iload_n 3 dX4_lookTowards_92 rfl rfl ?_
  refine xs_iald 448 (v3.toNatClampNeg) dX4_lookTowards_93 sh_7 rfl rfl hb3 ?_
  refine x_aload_n 0 dX4_lookTowards_94 rfl rfl ?_
  refine xs_getr dX4_lookTowards_95 fl_X4_31 sh_20 rfl rf_1280 ?_
  refine xs_geti 66 dX4_lookTowards_98 fl_X4_48 sh_1 rfl rfl ?_
  exact x_icmp_eq 138 dX4_lookTowards_101 (by decide) (fun h => K1 h) (fun h => K2 h)
theorem bX4_lookTowards_104 {I : Nat → Nat → Int32} {L : Nat → Int64} {Q : Option Value → (Nat → Nat → Int32) → (Nat → Int64) → Prop} {v1 : Int32} {v2 : Int32} {v3 : Int32} (hb1 : vp_in v3 8) (K : XS mX5_measure 0 [(0, .ref 16), (1, .int v1), (2, .int (0 : Int32)), (3, .int (I 448 (v3.toNatClampNeg)))] [] I L (fun r I' L' => XS mX4_lookTowards 122 [(0, .ref 20), (1, .int v1), (2, .int v2), (3, .int v3)] (r.toList ++ []) I' L' Q)) : XS mX4_lookTowards 104 [(0, .ref 20), (1, .int v1), (2, .int v2), (3, .int v3)] [] I L Q := by
  refine x_aload_n 0 dX4_lookTowards_104 rfl rfl ?_
  refine xs_getr dX4_lookTowards_105 fl_X4_35 sh_20 rfl rf_1281 ?_
  refine x_iload_n 1 dX4_lookTowards_108 rfl rfl ?_
  refine x_iconst (v := (0 : Int32)) dX4_lookTowards_109 (by decide) ?_
  refine x_aload_n 0 dX4_lookTowards_110 rfl rfl ?_
  refine xs_getr dX4_lookTowards_111 fl_X4_31 sh_20 rfl rf_1280 ?_
  refine xs_getr dX4_lookTowards_114 fl_X4_61 sh_1 rfl rf_72 ?_
  refine x_iload_n 3 dX4_lookTowards_117 rfl rfl ?_
  refine xs_iald 448 (v3.toNatClampNeg) dX4_lookTowards_118 sh_7 rfl rfl hb1 ?_
  exact xs_callV mX5_measure [.int v1, .int (0 : Int32), .int (I 448 (v3.toNatClampNeg))] [] 16 5 3 _ rfl dX4_lookTowards_119 ml_X4_51 qX5_measure rfl ⟨Nat.le_of_ble_eq_true rfl, Nat.le_of_ble_eq_true rfl⟩ ⟨rfl, rfl⟩ (Nat.le_of_ble_eq_true rfl) sh_16 (by decide) rfl (Nat.le_of_ble_eq_true rfl) (K)
theorem bX4_lookTowards_122 {I : Nat → Nat → Int32} {L : Nat → Int64} {Q : Option Value → (Nat → Nat → Int32) → (Nat → Int64) → Prop} {v1 : Int32} {v2 : Int32} {v3 : Int32}  (K : XS mX5_nodeAhead 0 [(0, .ref 16), (1, .int v3)] [] I L (fun r I' L' => XS mX4_lookTowards 137 [(0, .ref 20), (1, .int v1), (2, .int v2), (3, .int v3)] (r.toList ++ [.int (v2 + v3), .ref 21]) I' L' Q)) : XS mX4_lookTowards 122 [(0, .ref 20), (1, .int v1), (2, .int v2), (3, .int v3)] [] I L Q := by
  refine x_aload_n 0 dX4_lookTowards_122 rfl rfl ?_
  refine xs_getr dX4_lookTowards_123 fl_X4_9 sh_20 rfl rf_1282 ?_
  refine x_iload_n 2 dX4_lookTowards_126 rfl rfl ?_
  refine x_iload_n 3 dX4_lookTowards_127 rfl rfl ?_
  refine x_iadd dX4_lookTowards_128 ?_
  refine x_aload_n 0 dX4_lookTowards_129 rfl rfl ?_
  refine xs_getr dX4_lookTowards_130 fl_X4_35 sh_20 rfl rf_1281 ?_
  refine x_iload_n 3 dX4_lookTowards_133 rfl rfl ?_
  exact xs_callV mX5_nodeAhead [.int v3] [.int (v2 + v3), .ref 21] 16 5 1 _ rfl dX4_lookTowards_134 ml_X4_57 qX5_nodeAhead rfl ⟨Nat.le_of_ble_eq_true rfl, Nat.le_of_ble_eq_true rfl⟩ ⟨rfl, rfl⟩ (Nat.le_of_ble_eq_true rfl) sh_16 (by decide) rfl (Nat.le_of_ble_eq_true rfl) (K)
theorem bX4_lookTowards_137 {I : Nat → Nat → Int32} {L : Nat → Int64} {Q : Option Value → (Nat → Nat → Int32) → (Nat → Int64) → Prop} {v1 : Int32} {v2 : Int32} {v3 : Int32} {s1 : Int32} {s2 : Int32} (hb1 : vp_in s1 64) (K : XS mX4_lookTowards 138 [(0, .ref 20), (1, .int v1), (2, .int v2), (3, .int v3)] [] (x_up I 1344 (s1.toNatClampNeg) s2) L Q) : XS mX4_lookTowards 137 [(0, .ref 20), (1, .int v1), (2, .int v2), (3, .int v3)] [.int s2, .int s1, .ref 21] I L Q := by
  refine xs_iast 1344 (s1.toNatClampNeg) dX4_lookTowards_137 sh_21 rfl rfl hb1 ?_
  exact K
theorem bX4_lookTowards_138 {I : Nat → Nat → Int32} {L : Nat → Int64} {Q : Option Value → (Nat → Nat → Int32) → (Nat → Int64) → Prop} {v1 : Int32} {v2 : Int32} {v3 : Int32}  (K : XS mX4_lookTowards 58 [(0, .ref 20), (1, .int v1), (2, .int v2), (3, .int (v3 + (1 : Int32)))] [] I L Q) : XS mX4_lookTowards 138 [(0, .ref 20), (1, .int v1), (2, .int v2), (3, .int v3)] [] I L Q := by
  refine x_iinc 3 (v3 + (1 : Int32)) [(0, .ref 20), (1, .int v1), (2, .int v2), (3, .int (v3 + (1 : Int32)))] dX4_lookTowards_138 rfl rfl (Nat.le_of_ble_eq_true rfl) rfl ?_
  exact x_goto 58 dX4_lookTowards_141 (by decide) (K)
theorem bX4_lookTowards_144 {I : Nat → Nat → Int32} {L : Nat → Int64} {Q : Option Value → (Nat → Nat → Int32) → (Nat → Int64) → Prop}   (K : Q none I L) : XS mX4_lookTowards 144 [] [] I L Q := by
  exact xs_end dX4_lookTowards_144 rfl K
theorem bX4_hasRings_0 {I : Nat → Nat → Int32} {L : Nat → Int64} {Q : Option Value → (Nat → Nat → Int32) → (Nat → Int64) → Prop} {v1 : Int32}  (K : XS mX4_hasRings 2 [(0, .ref 20), (1, .int v1), (2, .int (0 : Int32))] [] I L Q) : XS mX4_hasRings 0 [(0, .ref 20), (1, .int v1)] [] I L Q := by
  refine x_iconst (v := (0 : Int32)) dX4_hasRings_0 (by decide) ?_
  refine x_istore_n [(0, .ref 20), (1, .int v1), (2, .int (0 : Int32))] dX4_hasRings_1 rfl (Nat.le_of_ble_eq_true rfl) rfl ?_
  exact K
theorem bX4_hasRings_2 {I : Nat → Nat → Int32} {L : Nat → Int64} {Q : Option Value → (Nat → Nat → Int32) → (Nat → Int64) → Prop} {v1 : Int32} {v2 : Int32}  (K1 : ((I 64 0) ≤ v2) → XS mX4_hasRings 30 [] [] I L Q) (K2 : (¬ (I 64 0) ≤ v2) → XS mX4_hasRings 13 [(0, .ref 20), (1, .int v1), (2, .int v2)] [] I L Q) : XS mX4_hasRings 2 [(0, .ref 20), (1, .int v1), (2, .int v2)] [] I L Q := by
  refine x_iload_n 2 dX4_hasRings_2 rfl rfl ?_
  refine x_aload_n 0 dX4_hasRings_3 rfl rfl ?_
  refine xs_getr dX4_hasRings_4 fl_X4_31 sh_20 rfl rf_1280 ?_
  refine xs_geti 64 dX4_hasRings_7 fl_X4_39 sh_1 rfl rfl ?_
  exact x_icmp_ge 30 dX4_hasRings_10 (by decide) (fun h => x_sub [] rfl (K1 h)) (fun h => K2 h)
theorem bX4_hasRings_13 {I : Nat → Nat → Int32} {L : Nat → Int64} {Q : Option Value → (Nat → Nat → Int32) → (Nat → Int64) → Prop} {v1 : Int32} {v2 : Int32}  (K : XS mX4_ringsOf 0 [(0, .ref 20), (1, .int v2), (2, .int v1)] [] I L (fun r I' L' => XS mX4_hasRings 19 [(0, .ref 20), (1, .int v1), (2, .int v2)] (r.toList ++ []) I' L' Q)) : XS mX4_hasRings 13 [(0, .ref 20), (1, .int v1), (2, .int v2)] [] I L Q := by
  refine x_aload_n 0 dX4_hasRings_13 rfl rfl ?_
  refine x_iload_n 2 dX4_hasRings_14 rfl rfl ?_
  refine x_iload_n 1 dX4_hasRings_15 rfl rfl ?_
  exact xs_callV mX4_ringsOf [.int v2, .int v1] [] 20 4 2 _ rfl dX4_hasRings_16 ml_X4_64 qX4_ringsOf rfl ⟨Nat.le_of_ble_eq_true rfl, Nat.le_of_ble_eq_true rfl⟩ ⟨rfl, rfl⟩ (Nat.le_of_ble_eq_true rfl) sh_20 (by decide) rfl (Nat.le_of_ble_eq_true rfl) (K)
theorem bX4_hasRings_19 {I : Nat → Nat → Int32} {L : Nat → Int64} {Q : Option Value → (Nat → Nat → Int32) → (Nat → Int64) → Prop} {v1 : Int32} {v2 : Int32} {s0 : Int32}  (K1 : (s0 = 0) → XS mX4_hasRings 24 [(0, .ref 20), (1, .int v1), (2, .int v2)] [] I L Q) (K2 : (¬ s0 = 0) → XS mX4_hasRings 22 [] [] I L Q) : XS mX4_hasRings 19 [(0, .ref 20), (1, .int v1), (2, .int v2)] [.int s0] I L Q := by
  exact x_if_eq 24 dX4_hasRings_19 (by decide) (fun h => K1 h) (fun h => x_sub [] rfl (K2 h))
theorem bX4_hasRings_22 {I : Nat → Nat → Int32} {L : Nat → Int64} {Q : Option Value → (Nat → Nat → Int32) → (Nat → Int64) → Prop}   (K : Q (some (.int (1 : Int32))) I L) : XS mX4_hasRings 22 [] [] I L Q := by
  refine x_iconst (v := (1 : Int32)) dX4_hasRings_22 (by decide) ?_
  exact xs_iret dX4_hasRings_23 rfl (x_nar _ (Or.inr rfl)) K
theorem bX4_hasRings_24 {I : Nat → Nat → Int32} {L : Nat → Int64} {Q : Option Value → (Nat → Nat → Int32) → (Nat → Int64) → Prop} {v1 : Int32} {v2 : Int32}  (K : XS mX4_hasRings 2 [(0, .ref 20), (1, .int v1), (2, .int (v2 + (1 : Int32)))] [] I L Q) : XS mX4_hasRings 24 [(0, .ref 20), (1, .int v1), (2, .int v2)] [] I L Q := by
  refine x_iinc 2 (v2 + (1 : Int32)) [(0, .ref 20), (1, .int v1), (2, .int (v2 + (1 : Int32)))] dX4_hasRings_24 rfl rfl (Nat.le_of_ble_eq_true rfl) rfl ?_
  exact x_goto 2 dX4_hasRings_27 (by decide) (K)
theorem bX4_hasRings_30 {I : Nat → Nat → Int32} {L : Nat → Int64} {Q : Option Value → (Nat → Nat → Int32) → (Nat → Int64) → Prop}   (K : Q (some (.int (0 : Int32))) I L) : XS mX4_hasRings 30 [] [] I L Q := by
  refine x_iconst (v := (0 : Int32)) dX4_hasRings_30 (by decide) ?_
  exact xs_iret dX4_hasRings_31 rfl (x_nar _ (Or.inl rfl)) K
theorem bX4_ringsOf_0 {I : Nat → Nat → Int32} {L : Nat → Int64} {Q : Option Value → (Nat → Nat → Int32) → (Nat → Int64) → Prop} {v1 : Int32} {v2 : Int32}  (K : XS mX4_ringsOf 5 [(0, .ref 20), (1, .int v1), (2, .int v2), (3, .int (0 : Int32)), (4, .int (0 : Int32))] [] I L Q) : XS mX4_ringsOf 0 [(0, .ref 20), (1, .int v1), (2, .int v2)] [] I L Q := by
  refine x_iconst (v := (0 : Int32)) dX4_ringsOf_0 (by decide) ?_
  refine x_istore_n [(0, .ref 20), (1, .int v1), (2, .int v2), (3, .int (0 : Int32))] dX4_ringsOf_1 rfl (Nat.le_of_ble_eq_true rfl) rfl ?_
  refine x_iconst (v := (0 : Int32)) dX4_ringsOf_2 (by decide) ?_
  refine x_istore [(0, .ref 20), (1, .int v1), (2, .int v2), (3, .int (0 : Int32)), (4, .int (0 : Int32))] dX4_ringsOf_3 (Nat.le_of_ble_eq_true rfl) rfl ?_
  exact K
theorem bX4_ringsOf_5 {I : Nat → Nat → Int32} {L : Nat → Int64} {Q : Option Value → (Nat → Nat → Int32) → (Nat → Int64) → Prop} {v1 : Int32} {v2 : Int32} {v3 : Int32} {v4 : Int32}  (K1 : ((I 64 0) ≤ v4) → XS mX4_ringsOf 41 [(3, .int v3)] [] I L Q) (K2 : (¬ (I 64 0) ≤ v4) → XS mX4_ringsOf 17 [(0, .ref 20), (1, .int v1), (2, .int v2), (3, .int v3), (4, .int v4)] [] I L Q) : XS mX4_ringsOf 5 [(0, .ref 20), (1, .int v1), (2, .int v2), (3, .int v3), (4, .int v4)] [] I L Q := by
  refine x_iload 4 dX4_ringsOf_5 rfl ?_
  refine x_aload_n 0 dX4_ringsOf_7 rfl rfl ?_
  refine xs_getr dX4_ringsOf_8 fl_X4_31 sh_20 rfl rf_1280 ?_
  refine xs_geti 64 dX4_ringsOf_11 fl_X4_39 sh_1 rfl rfl ?_
  exact x_icmp_ge 41 dX4_ringsOf_14 (by decide) (fun h => x_sub [3] rfl (K1 h)) (fun h => K2 h)
theorem bX4_ringsOf_17 {I : Nat → Nat → Int32} {L : Nat → Int64} {Q : Option Value → (Nat → Nat → Int32) → (Nat → Int64) → Prop} {v1 : Int32} {v2 : Int32} {v3 : Int32} {v4 : Int32}  (K : XS mX4_goesRound 0 [(0, .ref 20), (1, .int v4), (2, .int v1), (3, .int v2)] [] I L (fun r I' L' => XS mX4_ringsOf 25 [(0, .ref 20), (1, .int v1), (2, .int v2), (3, .int v3), (4, .int v4)] (r.toList ++ []) I' L' Q)) : XS mX4_ringsOf 17 [(0, .ref 20), (1, .int v1), (2, .int v2), (3, .int v3), (4, .int v4)] [] I L Q := by
  refine x_aload_n 0 dX4_ringsOf_17 rfl rfl ?_
  refine x_iload 4 dX4_ringsOf_18 rfl ?_
  refine x_iload_n 1 dX4_ringsOf_20 rfl rfl ?_
  refine x_iload_n 2 dX4_ringsOf_21 rfl rfl ?_
  exact xs_callV mX4_goesRound [.int v4, .int v1, .int v2] [] 20 4 3 _ rfl dX4_ringsOf_22 ml_X4_68 qX4_goesRound rfl ⟨Nat.le_of_ble_eq_true rfl, Nat.le_of_ble_eq_true rfl⟩ ⟨rfl, rfl⟩ (Nat.le_of_ble_eq_true rfl) sh_20 (by decide) rfl (Nat.le_of_ble_eq_true rfl) (K)
theorem bX4_ringsOf_25 {I : Nat → Nat → Int32} {L : Nat → Int64} {Q : Option Value → (Nat → Nat → Int32) → (Nat → Int64) → Prop} {v1 : Int32} {v2 : Int32} {v3 : Int32} {v4 : Int32} {s0 : Int32}  (K1 : (s0 = 0) → XS mX4_ringsOf 35 [(0, .ref 20), (1, .int v1), (2, .int v2), (3, .int v3), (4, .int v4)] [] I L Q) (K2 : (¬ s0 = 0) → XS mX4_ringsOf 28 [(0, .ref 20), (1, .int v1), (2, .int v2), (3, .int v3), (4, .int v4)] [] I L Q) : XS mX4_ringsOf 25 [(0, .ref 20), (1, .int v1), (2, .int v2), (3, .int v3), (4, .int v4)] [.int s0] I L Q := by
  exact x_if_eq 35 dX4_ringsOf_25 (by decide) (fun h => K1 h) (fun h => K2 h)
theorem bX4_ringsOf_28 {I : Nat → Nat → Int32} {L : Nat → Int64} {Q : Option Value → (Nat → Nat → Int32) → (Nat → Int64) → Prop} {v1 : Int32} {v2 : Int32} {v3 : Int32} {v4 : Int32}  (K : XS mX4_ringsOf 35 [(0, .ref 20), (1, .int v1), (2, .int v2), (3, .int (v3 ||| ((1 : Int32) <<< (v4 &&& 31)))), (4, .int v4)] [] I L Q) : XS mX4_ringsOf 28 [(0, .ref 20), (1, .int v1), (2, .int v2), (3, .int v3), (4, .int v4)] [] I L Q := by
  refine x_iload_n 3 dX4_ringsOf_28 rfl rfl ?_
  refine x_iconst (v := (1 : Int32)) dX4_ringsOf_29 (by decide) ?_
  refine x_iload 4 dX4_ringsOf_30 rfl ?_
  refine x_ishl dX4_ringsOf_32 ?_
  refine x_ior dX4_ringsOf_33 ?_
  refine x_istore_n [(0, .ref 20), (1, .int v1), (2, .int v2), (3, .int (v3 ||| ((1 : Int32) <<< (v4 &&& 31)))), (4, .int v4)] dX4_ringsOf_34 rfl (Nat.le_of_ble_eq_true rfl) rfl ?_
  exact K
theorem bX4_ringsOf_35 {I : Nat → Nat → Int32} {L : Nat → Int64} {Q : Option Value → (Nat → Nat → Int32) → (Nat → Int64) → Prop} {v1 : Int32} {v2 : Int32} {v3 : Int32} {v4 : Int32}  (K : XS mX4_ringsOf 5 [(0, .ref 20), (1, .int v1), (2, .int v2), (3, .int v3), (4, .int (v4 + (1 : Int32)))] [] I L Q) : XS mX4_ringsOf 35 [(0, .ref 20), (1, .int v1), (2, .int v2), (3, .int v3), (4, .int v4)] [] I L Q := by
  refine x_iinc 4 (v4 + (1 : Int32)) [(0, .ref 20), (1, .int v1), (2, .int v2), (3, .int v3), (4, .int (v4 + (1 : Int32)))] dX4_ringsOf_35 rfl rfl (Nat.le_of_ble_eq_true rfl) rfl ?_
  exact x_goto 5 dX4_ringsOf_38 (by decide) (K)
theorem bX4_ringsOf_41 {I : Nat → Nat → Int32} {L : Nat → Int64} {Q : Option Value → (Nat → Nat → Int32) → (Nat → Int64) → Prop} {v3 : Int32}  (K : Q (some (.int v3)) I L) : XS mX4_ringsOf 41 [(3, .int v3)] [] I L Q := by
  refine x_iload_n 0 dX4_ringsOf_41 rfl rfl ?_
  exact xs_iret dX4_ringsOf_42 rfl rfl K
theorem bX4_goesRound_0 {I : Nat → Nat → Int32} {L : Nat → Int64} {Q : Option Value → (Nat → Nat → Int32) → (Nat → Int64) → Prop} {v1 : Int32} {v2 : Int32} {v3 : Int32}  (K : XS mX4_goesRound 6 [(0, .ref 20), (2, .int v2), (3, .int v3), (4, .int v1), (5, .int (0 : Int32))] [] I L Q) : XS mX4_goesRound 0 [(0, .ref 20), (1, .int v1), (2, .int v2), (3, .int v3)] [] I L Q := by
  refine x_iload_n 1 dX4_goesRound_0 rfl rfl ?_
  refine x_istore [(0, .ref 20), (1, .int v1), (2, .int v2), (3, .int v3), (4, .int v1)] dX4_goesRound_1 (Nat.le_of_ble_eq_true rfl) rfl ?_
  refine x_iconst (v := (0 : Int32)) dX4_goesRound_3 (by decide) ?_
  refine x_istore [(0, .ref 20), (1, .int v1), (2, .int v2), (3, .int v3), (4, .int v1), (5, .int (0 : Int32))] dX4_goesRound_4 (Nat.le_of_ble_eq_true rfl) rfl ?_
  exact x_sub [0, 2, 3, 4, 5] rfl (K)
theorem bX4_goesRound_6 {I : Nat → Nat → Int32} {L : Nat → Int64} {Q : Option Value → (Nat → Nat → Int32) → (Nat → Int64) → Prop} {v2 : Int32} {v3 : Int32} {v4 : Int32} {v5 : Int32}  (K1 : ((I 64 0) ≤ v5) → XS mX4_goesRound 74 [(2, .int v2), (4, .int v4)] [] I L Q) (K2 : (¬ (I 64 0) ≤ v5) → XS mX4_goesRound 18 [(0, .ref 20), (2, .int v2), (3, .int v3), (4, .int v4), (5, .int v5)] [] I L Q) : XS mX4_goesRound 6 [(0, .ref 20), (2, .int v2), (3, .int v3), (4, .int v4), (5, .int v5)] [] I L Q := by
  refine x_iload 4 dX4_goesRound_6 rfl ?_
  refine x_aload_n 0 dX4_goesRound_8 rfl rfl ?_
  refine xs_getr dX4_goesRound_9 fl_X4_31 sh_20 rfl rf_1280 ?_
  refine xs_geti 64 dX4_goesRound_12 fl_X4_39 sh_1 rfl rfl ?_
  exact x_icmp_ge 74 dX4_goesRound_15 (by decide) (fun h => x_sub [1, 3] rfl (K1 h)) (fun h => K2 h)
theorem bX4_goesRound_18 {I : Nat → Nat → Int32} {L : Nat → Int64} {Q : Option Value → (Nat → Nat → Int32) → (Nat → Int64) → Prop} {v2 : Int32} {v3 : Int32} {v4 : Int32} {v5 : Int32}  (K1 : (v4 = v2) → XS mX4_goesRound 74 [(2, .int v2), (4, .int v4)] [] I L Q) (K2 : (¬ v4 = v2) → XS mX4_goesRound 24 [(0, .ref 20), (2, .int v2), (3, .int v3), (4, .int v4), (5, .int v5)] [] I L Q) : XS mX4_goesRound 18 [(0, .ref 20), (2, .int v2), (3, .int v3), (4, .int v4), (5, .int v5)] [] I L Q := by
  refine x_iload 3 dX4_goesRound_18 rfl ?_
  refine x_iload_n 1 dX4_goesRound_20 rfl rfl ?_
  exact x_icmp_eq 74 dX4_goesRound_21 (by decide) (fun h => x_sub [1, 3] rfl (K1 h)) (fun h => K2 h)
theorem bX4_goesRound_24 {I : Nat → Nat → Int32} {L : Nat → Int64} {Q : Option Value → (Nat → Nat → Int32) → (Nat → Int64) → Prop} {v2 : Int32} {v3 : Int32} {v4 : Int32} {v5 : Int32}  (K1 : (v4 = (-1 : Int32)) → XS mX4_goesRound 74 [(2, .int v2), (4, .int v4)] [] I L Q) (K2 : (¬ v4 = (-1 : Int32)) → XS mX4_goesRound 30 [(0, .ref 20), (2, .int v2), (3, .int v3), (4, .int v4), (5, .int v5)] [] I L Q) : XS mX4_goesRound 24 [(0, .ref 20), (2, .int v2), (3, .int v3), (4, .int v4), (5, .int v5)] [] I L Q := by
  refine x_iload 3 dX4_goesRound_24 rfl ?_
  refine x_iconst (v := (-1 : Int32)) dX4_goesRound_26 (by decide) ?_
  exact x_icmp_eq 74 dX4_goesRound_27 (by decide) (fun h => x_sub [1, 3] rfl (K1 h)) (fun h => K2 h)
theorem bX4_goesRound_30 {I : Nat → Nat → Int32} {L : Nat → Int64} {Q : Option Value → (Nat → Nat → Int32) → (Nat → Int64) → Prop} {v2 : Int32} {v3 : Int32} {v4 : Int32} {v5 : Int32}  (K1 : (¬ ((v3 >>> (v4 &&& 31)) &&& (1 : Int32)) = (1 : Int32)) → XS mX4_goesRound 59 [(0, .ref 20), (2, .int v2), (3, .int v3), (5, .int v5), (6, .int ((v2 * (8 : Int32)) + v4))] [] I L Q) (K2 : (((v3 >>> (v4 &&& 31)) &&& (1 : Int32)) = (1 : Int32)) → XS mX4_goesRound 49 [(0, .ref 20), (2, .int v2), (3, .int v3), (5, .int v5), (6, .int ((v2 * (8 : Int32)) + v4))] [] I L Q) : XS mX4_goesRound 30 [(0, .ref 20), (2, .int v2), (3, .int v3), (4, .int v4), (5, .int v5)] [] I L Q := by
  refine x_iload_n 1 dX4_goesRound_30 rfl rfl ?_
  refine x_bipush (v := (8 : Int32)) dX4_goesRound_31 (by decide) ?_
  refine x_imul dX4_goesRound_33 ?_
  refine x_iload 3 dX4_goesRound_34 rfl ?_
  refine x_iadd dX4_goesRound_36 ?_
  refine x_istore [(0, .ref 20), (2, .int v2), (3, .int v3), (4, .int v4), (5, .int v5), (6, .int ((v2 * (8 : Int32)) + v4))] dX4_goesRound_37 (Nat.le_of_ble_eq_true rfl) rfl ?_
  refine x_iload_n 2 dX4_goesRound_39 rfl rfl ?_
  refine x_iload 3 dX4_goesRound_40 rfl ?_
  refine x_ishr dX4_goesRound_42 ?_
  refine x_iconst (v := (1 : Int32)) dX4_goesRound_43 (by decide) ?_
  refine x_iand dX4_goesRound_44 ?_
  refine x_iconst (v := (1 : Int32)) dX4_goesRound_45 (by decide) ?_
  exact x_icmp_ne 59 dX4_goesRound_46 (by decide) (fun h => x_sub [0, 1, 2, 4, 5] rfl (K1 h)) (fun h => x_sub [0, 1, 2, 4, 5] rfl (K2 h))
theorem bX4_goesRound_49 {I : Nat → Nat → Int32} {L : Nat → Int64} {Q : Option Value → (Nat → Nat → Int32) → (Nat → Int64) → Prop} {v2 : Int32} {v3 : Int32} {v5 : Int32} {v6 : Int32} (hb1 : vp_in v6 64) (K : XS mX4_goesRound 66 [(0, .ref 20), (2, .int v2), (3, .int v3), (5, .int v5)] [.int (I 1408 (v6.toNatClampNeg))] I L Q) : XS mX4_goesRound 49 [(0, .ref 20), (2, .int v2), (3, .int v3), (5, .int v5), (6, .int v6)] [] I L Q := by
  refine x_aload_n 0 dX4_goesRound_49 rfl rfl ?_
  refine xs_getr dX4_goesRound_50 fl_X4_15 sh_20 rfl rf_1283 ?_
  refine x_iload 4 dX4_goesRound_53 rfl ?_
  refine xs_iald 1408 (v6.toNatClampNeg) dX4_goesRound_55 sh_22 rfl rfl hb1 ?_
  exact x_goto 66 dX4_goesRound_56 (by decide) (x_sub [0, 1, 2, 3] rfl (K))
theorem bX4_goesRound_59 {I : Nat → Nat → Int32} {L : Nat → Int64} {Q : Option Value → (Nat → Nat → Int32) → (Nat → Int64) → Prop} {v2 : Int32} {v3 : Int32} {v5 : Int32} {v6 : Int32} (hb1 : vp_in v6 64) (K : XS mX4_goesRound 66 [(0, .ref 20), (2, .int v2), (3, .int v3), (5, .int v5)] [.int (I 1344 (v6.toNatClampNeg))] I L Q) : XS mX4_goesRound 59 [(0, .ref 20), (2, .int v2), (3, .int v3), (5, .int v5), (6, .int v6)] [] I L Q := by
  refine x_aload_n 0 dX4_goesRound_59 rfl rfl ?_
  refine xs_getr dX4_goesRound_60 fl_X4_9 sh_20 rfl rf_1282 ?_
  refine x_iload 4 dX4_goesRound_63 rfl ?_
  refine xs_iald 1344 (v6.toNatClampNeg) dX4_goesRound_65 sh_21 rfl rfl hb1 ?_
  exact x_sub [0, 1, 2, 3] rfl (K)
theorem bX4_goesRound_66 {I : Nat → Nat → Int32} {L : Nat → Int64} {Q : Option Value → (Nat → Nat → Int32) → (Nat → Int64) → Prop} {v2 : Int32} {v3 : Int32} {v5 : Int32} {s0 : Int32}  (K : XS mX4_goesRound 6 [(0, .ref 20), (2, .int v2), (3, .int v3), (4, .int s0), (5, .int (v5 + (1 : Int32)))] [] I L Q) : XS mX4_goesRound 66 [(0, .ref 20), (2, .int v2), (3, .int v3), (5, .int v5)] [.int s0] I L Q := by
  refine x_istore [(0, .ref 20), (2, .int v2), (3, .int v3), (4, .int s0), (5, .int v5)] dX4_goesRound_66 (Nat.le_of_ble_eq_true rfl) rfl ?_
  refine x_iinc 4 (v5 + (1 : Int32)) [(0, .ref 20), (2, .int v2), (3, .int v3), (4, .int s0), (5, .int (v5 + (1 : Int32)))] dX4_goesRound_68 rfl rfl (Nat.le_of_ble_eq_true rfl) rfl ?_
  exact x_goto 6 dX4_goesRound_71 (by decide) (K)
theorem bX4_goesRound_74 {I : Nat → Nat → Int32} {L : Nat → Int64} {Q : Option Value → (Nat → Nat → Int32) → (Nat → Int64) → Prop} {v2 : Int32} {v4 : Int32}  (K1 : (v4 = v2) → XS mX4_goesRound 90 [] [] I L Q) (K2 : (¬ v4 = v2) → XS mX4_goesRound 80 [(4, .int v4)] [] I L Q) : XS mX4_goesRound 74 [(2, .int v2), (4, .int v4)] [] I L Q := by
  refine x_iload 1 dX4_goesRound_74 rfl ?_
  refine x_iload_n 0 dX4_goesRound_76 rfl rfl ?_
  exact x_icmp_eq 90 dX4_goesRound_77 (by decide) (fun h => x_sub [] rfl (K1 h)) (fun h => x_sub [1] rfl (K2 h))
theorem bX4_goesRound_80 {I : Nat → Nat → Int32} {L : Nat → Int64} {Q : Option Value → (Nat → Nat → Int32) → (Nat → Int64) → Prop} {v4 : Int32}  (K1 : (v4 = (-1 : Int32)) → XS mX4_goesRound 90 [] [] I L Q) (K2 : (¬ v4 = (-1 : Int32)) → XS mX4_goesRound 86 [] [] I L Q) : XS mX4_goesRound 80 [(4, .int v4)] [] I L Q := by
  refine x_iload 0 dX4_goesRound_80 rfl ?_
  refine x_iconst (v := (-1 : Int32)) dX4_goesRound_82 (by decide) ?_
  exact x_icmp_eq 90 dX4_goesRound_83 (by decide) (fun h => x_sub [] rfl (K1 h)) (fun h => x_sub [] rfl (K2 h))
theorem bX4_goesRound_86 {I : Nat → Nat → Int32} {L : Nat → Int64} {Q : Option Value → (Nat → Nat → Int32) → (Nat → Int64) → Prop}   (K : XS mX4_goesRound 91 [] [.int (1 : Int32)] I L Q) : XS mX4_goesRound 86 [] [] I L Q := by
  refine x_iconst (v := (1 : Int32)) dX4_goesRound_86 (by decide) ?_
  exact x_goto 91 dX4_goesRound_87 (by decide) (K)
theorem bX4_goesRound_90 {I : Nat → Nat → Int32} {L : Nat → Int64} {Q : Option Value → (Nat → Nat → Int32) → (Nat → Int64) → Prop}   (K : XS mX4_goesRound 91 [] [.int (0 : Int32)] I L Q) : XS mX4_goesRound 90 [] [] I L Q := by
  refine x_iconst (v := (0 : Int32)) dX4_goesRound_90 (by decide) ?_
  exact K
theorem bX4_goesRound_91 {I : Nat → Nat → Int32} {L : Nat → Int64} {Q : Option Value → (Nat → Nat → Int32) → (Nat → Int64) → Prop} {s0 : Int32} (hz1 : s0 = 0 ∨ s0 = 1) (K : Q (some (.int s0)) I L) : XS mX4_goesRound 91 [] [.int s0] I L Q := by
  exact xs_iret dX4_goesRound_91 rfl (x_nar _ hz1) K
theorem bX4_findOrder_0 {I : Nat → Nat → Int32} {L : Nat → Int64} {Q : Option Value → (Nat → Nat → Int32) → (Nat → Int64) → Prop}   (K : XS mX2_behind 0 [(0, .ref 1)] [] I L (fun r I' L' => XS mX4_findOrder 7 [(0, .ref 20)] (r.toList ++ []) I' L' Q)) : XS mX4_findOrder 0 [(0, .ref 20)] [] I L Q := by
  refine x_aload_n 0 dX4_findOrder_0 rfl rfl ?_
  refine xs_getr dX4_findOrder_1 fl_X4_31 sh_20 rfl rf_1280 ?_
  exact xs_callV mX2_behind [] [] 1 2 0 _ rfl dX4_findOrder_4 ml_X4_72 qX2_behind rfl ⟨Nat.le_of_ble_eq_true rfl, Nat.le_of_ble_eq_true rfl⟩ ⟨rfl, rfl⟩ (Nat.le_of_ble_eq_true rfl) sh_1 (by decide) rfl (Nat.le_of_ble_eq_true rfl) (K)
theorem bX4_findOrder_7 {I : Nat → Nat → Int32} {L : Nat → Int64} {Q : Option Value → (Nat → Nat → Int32) → (Nat → Int64) → Prop} {s0 : Int32}  (K : XS mX4_lookAround 0 [(0, .ref 20)] [] I L (fun r I' L' => XS mX4_findOrder 14 [(0, .ref 20), (1, .int s0), (2, .int (0 : Int32))] (r.toList ++ []) I' L' Q)) : XS mX4_findOrder 7 [(0, .ref 20)] [.int s0] I L Q := by
  refine x_istore_n [(0, .ref 20), (1, .int s0)] dX4_findOrder_7 rfl (Nat.le_of_ble_eq_true rfl) rfl ?_
  refine x_iconst (v := (0 : Int32)) dX4_findOrder_8 (by decide) ?_
  refine x_istore_n [(0, .ref 20), (1, .int s0), (2, .int (0 : Int32))] dX4_findOrder_9 rfl (Nat.le_of_ble_eq_true rfl) rfl ?_
  refine x_aload_n 0 dX4_findOrder_10 rfl rfl ?_
  exact xs_callV mX4_lookAround [] [] 20 4 0 _ rfl dX4_findOrder_11 ml_X4_76 qX4_lookAround rfl ⟨Nat.le_of_ble_eq_true rfl, Nat.le_of_ble_eq_true rfl⟩ ⟨rfl, rfl⟩ (Nat.le_of_ble_eq_true rfl) sh_20 (by decide) rfl (Nat.le_of_ble_eq_true rfl) (K)
theorem bX4_findOrder_14 {I : Nat → Nat → Int32} {L : Nat → Int64} {Q : Option Value → (Nat → Nat → Int32) → (Nat → Int64) → Prop} {v1 : Int32} {v2 : Int32}  (K : XS mX4_findOrder 24 [(0, .ref 20), (1, .int v1), (2, .int v2), (3, .int (0 : Int32))] [] (x_up I 1537 0 (0 : Int32)) L Q) : XS mX4_findOrder 14 [(0, .ref 20), (1, .int v1), (2, .int v2)] [] I L Q := by
  refine x_aload_n 0 dX4_findOrder_14 rfl rfl ?_
  refine xs_getr dX4_findOrder_15 fl_X4_27 sh_20 rfl rf_1285 ?_
  refine x_iconst (v := (0 : Int32)) dX4_findOrder_18 (by decide) ?_
  refine xs_puti 1537 dX4_findOrder_19 fl_X4_79 sh_24 rfl rfl rfl ?_
  refine x_iconst (v := (0 : Int32)) dX4_findOrder_22 (by decide) ?_
  refine x_istore_n [(0, .ref 20), (1, .int v1), (2, .int v2), (3, .int (0 : Int32))] dX4_findOrder_23 rfl (Nat.le_of_ble_eq_true rfl) rfl ?_
  exact K
theorem bX4_findOrder_24 {I : Nat → Nat → Int32} {L : Nat → Int64} {Q : Option Value → (Nat → Nat → Int32) → (Nat → Int64) → Prop} {v1 : Int32} {v2 : Int32} {v3 : Int32}  (K1 : ((256 : Int32) ≤ v3) → XS mX4_findOrder 46 [(0, .ref 20), (1, .int v1), (2, .int v2)] [] I L Q) (K2 : (¬ (256 : Int32) ≤ v3) → XS mX4_findOrder 33 [(0, .ref 20), (1, .int v1), (2, .int v2), (3, .int v3)] [] I L Q) : XS mX4_findOrder 24 [(0, .ref 20), (1, .int v1), (2, .int v2), (3, .int v3)] [] I L Q := by
  refine x_iload_n 3 dX4_findOrder_24 rfl rfl ?_
  refine x_aload_n 0 dX4_findOrder_25 rfl rfl ?_
  refine xs_getr dX4_findOrder_26 fl_X4_18 sh_20 rfl rf_1284 ?_
  refine x_alen (256 : Int32) dX4_findOrder_29 sh_23 (by decide) ?_
  exact x_icmp_ge 46 dX4_findOrder_30 (by decide) (fun h => x_sub [0, 1, 2] rfl (K1 h)) (fun h => K2 h)
theorem bX4_findOrder_33 {I : Nat → Nat → Int32} {L : Nat → Int64} {Q : Option Value → (Nat → Nat → Int32) → (Nat → Int64) → Prop} {v1 : Int32} {v2 : Int32} {v3 : Int32} (hb1 : vp_in v3 256) (K : XS mX4_findOrder 24 [(0, .ref 20), (1, .int v1), (2, .int v2), (3, .int (v3 + (1 : Int32)))] [] (x_up I 1472 (v3.toNatClampNeg) (0 : Int32)) L Q) : XS mX4_findOrder 33 [(0, .ref 20), (1, .int v1), (2, .int v2), (3, .int v3)] [] I L Q := by
  refine x_aload_n 0 dX4_findOrder_33 rfl rfl ?_
  refine xs_getr dX4_findOrder_34 fl_X4_18 sh_20 rfl rf_1284 ?_
  refine x_iload_n 3 dX4_findOrder_37 rfl rfl ?_
  refine x_iconst (v := (0 : Int32)) dX4_findOrder_38 (by decide) ?_
  refine xs_zast 1472 (v3.toNatClampNeg) dX4_findOrder_39 sh_23 rfl rfl hb1 (Or.inl rfl) ?_
  refine x_iinc 3 (v3 + (1 : Int32)) [(0, .ref 20), (1, .int v1), (2, .int v2), (3, .int (v3 + (1 : Int32)))] dX4_findOrder_40 rfl rfl (Nat.le_of_ble_eq_true rfl) rfl ?_
  exact x_goto 24 dX4_findOrder_43 (by decide) (K)
theorem bX4_findOrder_46 {I : Nat → Nat → Int32} {L : Nat → Int64} {Q : Option Value → (Nat → Nat → Int32) → (Nat → Int64) → Prop} {v1 : Int32} {v2 : Int32}  (K : XS mX4_findOrder 48 [(0, .ref 20), (1, .int v1), (2, .int v2), (3, .int (0 : Int32))] [] I L Q) : XS mX4_findOrder 46 [(0, .ref 20), (1, .int v1), (2, .int v2)] [] I L Q := by
  refine x_iconst (v := (0 : Int32)) dX4_findOrder_46 (by decide) ?_
  refine x_istore_n [(0, .ref 20), (1, .int v1), (2, .int v2), (3, .int (0 : Int32))] dX4_findOrder_47 rfl (Nat.le_of_ble_eq_true rfl) rfl ?_
  exact K
theorem bX4_findOrder_48 {I : Nat → Nat → Int32} {L : Nat → Int64} {Q : Option Value → (Nat → Nat → Int32) → (Nat → Int64) → Prop} {v1 : Int32} {v2 : Int32} {v3 : Int32}  (K1 : ((512 : Int32) ≤ v3) → XS mX4_findOrder 148 [(1, .int v1), (2, .int v2)] [] I L Q) (K2 : (¬ (512 : Int32) ≤ v3) → XS mX4_findOrder 55 [(0, .ref 20), (1, .int v1), (2, .int v2), (3, .int v3)] [] I L Q) : XS mX4_findOrder 48 [(0, .ref 20), (1, .int v1), (2, .int v2), (3, .int v3)] [] I L Q := by
  refine x_iload_n 3 dX4_findOrder_48 rfl rfl ?_
  refine x_sipush (v := (512 : Int32)) dX4_findOrder_49 (by decide) ?_
  exact x_icmp_ge 148 dX4_findOrder_52 (by decide) (fun h => x_sub [1, 2] rfl (K1 h)) (fun h => K2 h)
theorem bX4_findOrder_55 {I : Nat → Nat → Int32} {L : Nat → Int64} {Q : Option Value → (Nat → Nat → Int32) → (Nat → Int64) → Prop} {v1 : Int32} {v2 : Int32} {v3 : Int32}  (K1 : (v2 = v1) → XS mX4_findOrder 148 [(1, .int v1), (2, .int v2)] [] I L Q) (K2 : (¬ v2 = v1) → XS mX4_findOrder 60 [(0, .ref 20), (1, .int v1), (2, .int v2), (3, .int v3)] [] I L Q) : XS mX4_findOrder 55 [(0, .ref 20), (1, .int v1), (2, .int v2), (3, .int v3)] [] I L Q := by
  refine x_iload_n 2 dX4_findOrder_55 rfl rfl ?_
  refine x_iload_n 1 dX4_findOrder_56 rfl rfl ?_
  exact x_icmp_eq 148 dX4_findOrder_57 (by decide) (fun h => x_sub [1, 2] rfl (K1 h)) (fun h => K2 h)
theorem bX4_findOrder_60 {I : Nat → Nat → Int32} {L : Nat → Int64} {Q : Option Value → (Nat → Nat → Int32) → (Nat → Int64) → Prop} {v1 : Int32} {v2 : Int32} {v3 : Int32}  (K : XS mX4_firstToLearn 0 [(0, .ref 20), (1, .int v1), (2, .int v2)] [] I L (fun r I' L' => XS mX4_findOrder 66 [(0, .ref 20), (1, .int v1), (2, .int v2), (3, .int v3)] (r.toList ++ []) I' L' Q)) : XS mX4_findOrder 60 [(0, .ref 20), (1, .int v1), (2, .int v2), (3, .int v3)] [] I L Q := by
  refine x_aload_n 0 dX4_findOrder_60 rfl rfl ?_
  refine x_iload_n 1 dX4_findOrder_61 rfl rfl ?_
  refine x_iload_n 2 dX4_findOrder_62 rfl rfl ?_
  exact xs_callV mX4_firstToLearn [.int v1, .int v2] [] 20 4 2 _ rfl dX4_findOrder_63 ml_X4_82 qX4_firstToLearn rfl ⟨Nat.le_of_ble_eq_true rfl, Nat.le_of_ble_eq_true rfl⟩ ⟨rfl, rfl⟩ (Nat.le_of_ble_eq_true rfl) sh_20 (by decide) rfl (Nat.le_of_ble_eq_true rfl) (K)
theorem bX4_findOrder_66 {I : Nat → Nat → Int32} {L : Nat → Int64} {Q : Option Value → (Nat → Nat → Int32) → (Nat → Int64) → Prop} {v1 : Int32} {v2 : Int32} {v3 : Int32} {s0 : Int32}  (K1 : (s0 = (-1 : Int32)) → XS mX4_findOrder 93 [(0, .ref 20), (1, .int v1), (2, .int v2), (3, .int v3)] [] I L Q) (K2 : (¬ s0 = (-1 : Int32)) → XS mX4_findOrder 74 [(0, .ref 20), (1, .int v1), (2, .int v2), (3, .int v3), (4, .int s0)] [] I L Q) : XS mX4_findOrder 66 [(0, .ref 20), (1, .int v1), (2, .int v2), (3, .int v3)] [.int s0] I L Q := by
  refine x_istore [(0, .ref 20), (1, .int v1), (2, .int v2), (3, .int v3), (4, .int s0)] dX4_findOrder_66 (Nat.le_of_ble_eq_true rfl) rfl ?_
  refine x_iload 4 dX4_findOrder_68 rfl ?_
  refine x_iconst (v := (-1 : Int32)) dX4_findOrder_70 (by decide) ?_
  exact x_icmp_eq 93 dX4_findOrder_71 (by decide) (fun h => x_sub [0, 1, 2, 3] rfl (K1 h)) (fun h => K2 h)
theorem bX4_findOrder_74 {I : Nat → Nat → Int32} {L : Nat → Int64} {Q : Option Value → (Nat → Nat → Int32) → (Nat → Int64) → Prop} {v1 : Int32} {v2 : Int32} {v3 : Int32} {v4 : Int32}  (K : XS mX6_put 0 [(0, .ref 24), (1, .int v4)] [] I L (fun r I' L' => XS mX4_findOrder 83 [(0, .ref 20), (1, .int v1), (2, .int v2), (3, .int v3), (4, .int v4)] (r.toList ++ []) I' L' Q)) : XS mX4_findOrder 74 [(0, .ref 20), (1, .int v1), (2, .int v2), (3, .int v3), (4, .int v4)] [] I L Q := by
  refine x_aload_n 0 dX4_findOrder_74 rfl rfl ?_
  refine xs_getr dX4_findOrder_75 fl_X4_27 sh_20 rfl rf_1285 ?_
  refine x_iload 4 dX4_findOrder_78 rfl ?_
  exact xs_callV mX6_put [.int v4] [] 24 6 1 _ rfl dX4_findOrder_80 ml_X4_85 qX6_put rfl ⟨Nat.le_of_ble_eq_true rfl, Nat.le_of_ble_eq_true rfl⟩ ⟨rfl, rfl⟩ (Nat.le_of_ble_eq_true rfl) sh_24 (by decide) rfl (Nat.le_of_ble_eq_true rfl) (K)
theorem bX4_findOrder_83 {I : Nat → Nat → Int32} {L : Nat → Int64} {Q : Option Value → (Nat → Nat → Int32) → (Nat → Int64) → Prop} {v1 : Int32} {v2 : Int32} {v3 : Int32} {v4 : Int32}  (K : XS mX4_findOrder 142 [(0, .ref 20), (1, .int v1), (2, .int (v2 ||| ((1 : Int32) <<< (v4 &&& 31)))), (3, .int v3)] [] I L Q) : XS mX4_findOrder 83 [(0, .ref 20), (1, .int v1), (2, .int v2), (3, .int v3), (4, .int v4)] [] I L Q := by
  refine x_iload_n 2 dX4_findOrder_83 rfl rfl ?_
  refine x_iconst (v := (1 : Int32)) dX4_findOrder_84 (by decide) ?_
  refine x_iload 4 dX4_findOrder_85 rfl ?_
  refine x_ishl dX4_findOrder_87 ?_
  refine x_ior dX4_findOrder_88 ?_
  refine x_istore_n [(0, .ref 20), (1, .int v1), (2, .int (v2 ||| ((1 : Int32) <<< (v4 &&& 31)))), (3, .int v3), (4, .int v4)] dX4_findOrder_89 rfl (Nat.le_of_ble_eq_true rfl) rfl ?_
  exact x_goto 142 dX4_findOrder_90 (by decide) (x_sub [0, 1, 2, 3] rfl (K))
theorem bX4_findOrder_93 {I : Nat → Nat → Int32} {L : Nat → Int64} {Q : Option Value → (Nat → Nat → Int32) → (Nat → Int64) → Prop} {v1 : Int32} {v2 : Int32} {v3 : Int32}  (K1 : ((I 1537 0) ≤ 0) → XS mX4_findOrder 140 [] [] I L Q) (K2 : (¬ (I 1537 0) ≤ 0) → XS mX4_findOrder 103 [(0, .ref 20), (1, .int v1), (2, .int v2), (3, .int v3)] [] I L Q) : XS mX4_findOrder 93 [(0, .ref 20), (1, .int v1), (2, .int v2), (3, .int v3)] [] I L Q := by
  refine x_aload_n 0 dX4_findOrder_93 rfl rfl ?_
  refine xs_getr dX4_findOrder_94 fl_X4_27 sh_20 rfl rf_1285 ?_
  refine xs_geti 1537 dX4_findOrder_97 fl_X4_79 sh_24 rfl rfl ?_
  exact x_if_le 140 dX4_findOrder_100 (by decide) (fun h => x_sub [] rfl (K1 h)) (fun h => K2 h)
theorem bX4_findOrder_103 {I : Nat → Nat → Int32} {L : Nat → Int64} {Q : Option Value → (Nat → Nat → Int32) → (Nat → Int64) → Prop} {v1 : Int32} {v2 : Int32} {v3 : Int32} (hb1 : vp_in v2 256) (K : XS mX6_last 0 [(0, .ref 24)] [] (x_up I 1472 (v2.toNatClampNeg) (1 : Int32)) L (fun r I' L' => XS mX4_findOrder 119 [(0, .ref 20), (1, .int v1), (3, .int v3)] (r.toList ++ [.int (1 : Int32), .int v2]) I' L' Q)) : XS mX4_findOrder 103 [(0, .ref 20), (1, .int v1), (2, .int v2), (3, .int v3)] [] I L Q := by
  refine x_aload_n 0 dX4_findOrder_103 rfl rfl ?_
  refine xs_getr dX4_findOrder_104 fl_X4_18 sh_20 rfl rf_1284 ?_
  refine x_iload_n 2 dX4_findOrder_107 rfl rfl ?_
  refine x_iconst (v := (1 : Int32)) dX4_findOrder_108 (by decide) ?_
  refine xs_zast 1472 (v2.toNatClampNeg) dX4_findOrder_109 sh_23 rfl rfl hb1 (Or.inr rfl) ?_
  refine x_iload_n 2 dX4_findOrder_110 rfl rfl ?_
  refine x_iconst (v := (1 : Int32)) dX4_findOrder_111 (by decide) ?_
  refine x_aload_n 0 dX4_findOrder_112 rfl rfl ?_
  refine xs_getr dX4_findOrder_113 fl_X4_27 sh_20 rfl rf_1285 ?_
  refine x_sub [0, 1, 3] rfl ?_
  exact xs_callV mX6_last [] [.int (1 : Int32), .int v2] 24 6 0 _ rfl dX4_findOrder_116 ml_X4_88 qX6_last rfl ⟨Nat.le_of_ble_eq_true rfl, Nat.le_of_ble_eq_true rfl⟩ ⟨rfl, rfl⟩ (Nat.le_of_ble_eq_true rfl) sh_24 (by decide) rfl (Nat.le_of_ble_eq_true rfl) (K)
theorem bX4_findOrder_119 {I : Nat → Nat → Int32} {L : Nat → Int64} {Q : Option Value → (Nat → Nat → Int32) → (Nat → Int64) → Prop} {v1 : Int32} {v3 : Int32} {s0 : Int32} {s1 : Int32} {s2 : Int32}  (K : XS mX4_findOrder 142 [(0, .ref 20), (1, .int v1), (2, .int (s0 &&& ((s1 <<< (s2 &&& 31)) ^^^ (-1 : Int32)))), (3, .int v3)] [] (x_up I 1537 0 ((I 1537 0) - (1 : Int32))) L Q) : XS mX4_findOrder 119 [(0, .ref 20), (1, .int v1), (3, .int v3)] [.int s2, .int s1, .int s0] I L Q := by
  refine x_ishl dX4_findOrder_119 ?_
  refine x_iconst (v := (-1 : Int32)) dX4_findOrder_120 (by decide) ?_
  refine x_ixor dX4_findOrder_121 ?_
  refine x_iand dX4_findOrder_122 ?_
  refine x_istore_n [(0, .ref 20), (1, .int v1), (2, .int (s0 &&& ((s1 <<< (s2 &&& 31)) ^^^ (-1 : Int32)))), (3, .int v3)] dX4_findOrder_123 rfl (Nat.le_of_ble_eq_true rfl) rfl ?_
  refine x_aload_n 0 dX4_findOrder_124 rfl rfl ?_
  refine xs_getr dX4_findOrder_125 fl_X4_27 sh_20 rfl rf_1285 ?_
  refine x_dup dX4_findOrder_128 rfl ?_
  refine xs_geti 1537 dX4_findOrder_129 fl_X4_79 sh_24 rfl rfl ?_
  refine x_iconst (v := (1 : Int32)) dX4_findOrder_132 (by decide) ?_
  refine x_isub dX4_findOrder_133 ?_
  refine xs_puti 1537 dX4_findOrder_134 fl_X4_79 sh_24 rfl rfl rfl ?_
  exact x_goto 142 dX4_findOrder_137 (by decide) (K)
theorem bX4_findOrder_140 {I : Nat → Nat → Int32} {L : Nat → Int64} {Q : Option Value → (Nat → Nat → Int32) → (Nat → Int64) → Prop}   (K : Q (some (.int (0 : Int32))) I L) : XS mX4_findOrder 140 [] [] I L Q := by
  refine x_iconst (v := (0 : Int32)) dX4_findOrder_140 (by decide) ?_
  exact xs_iret dX4_findOrder_141 rfl (x_nar _ (Or.inl rfl)) K
theorem bX4_findOrder_142 {I : Nat → Nat → Int32} {L : Nat → Int64} {Q : Option Value → (Nat → Nat → Int32) → (Nat → Int64) → Prop} {v1 : Int32} {v2 : Int32} {v3 : Int32}  (K : XS mX4_findOrder 48 [(0, .ref 20), (1, .int v1), (2, .int v2), (3, .int (v3 + (1 : Int32)))] [] I L Q) : XS mX4_findOrder 142 [(0, .ref 20), (1, .int v1), (2, .int v2), (3, .int v3)] [] I L Q := by
  refine x_iinc 3 (v3 + (1 : Int32)) [(0, .ref 20), (1, .int v1), (2, .int v2), (3, .int (v3 + (1 : Int32)))] dX4_findOrder_142 rfl rfl (Nat.le_of_ble_eq_true rfl) rfl ?_
  exact x_goto 48 dX4_findOrder_145 (by decide) (K)
theorem bX4_findOrder_148 {I : Nat → Nat → Int32} {L : Nat → Int64} {Q : Option Value → (Nat → Nat → Int32) → (Nat → Int64) → Prop} {v1 : Int32} {v2 : Int32}  (K1 : (¬ v2 = v1) → XS mX4_findOrder 157 [] [] I L Q) (K2 : (v2 = v1) → XS mX4_findOrder 153 [] [] I L Q) : XS mX4_findOrder 148 [(1, .int v1), (2, .int v2)] [] I L Q := by
  refine x_iload_n 1 dX4_findOrder_148 rfl rfl ?_
  refine x_iload_n 0 dX4_findOrder_149 rfl rfl ?_
  exact x_icmp_ne 157 dX4_findOrder_150 (by decide) (fun h => x_sub [] rfl (K1 h)) (fun h => x_sub [] rfl (K2 h))
theorem bX4_findOrder_153 {I : Nat → Nat → Int32} {L : Nat → Int64} {Q : Option Value → (Nat → Nat → Int32) → (Nat → Int64) → Prop}   (K : XS mX4_findOrder 158 [] [.int (1 : Int32)] I L Q) : XS mX4_findOrder 153 [] [] I L Q := by
  refine x_iconst (v := (1 : Int32)) dX4_findOrder_153 (by decide) ?_
  exact x_goto 158 dX4_findOrder_154 (by decide) (K)
theorem bX4_findOrder_157 {I : Nat → Nat → Int32} {L : Nat → Int64} {Q : Option Value → (Nat → Nat → Int32) → (Nat → Int64) → Prop}   (K : XS mX4_findOrder 158 [] [.int (0 : Int32)] I L Q) : XS mX4_findOrder 157 [] [] I L Q := by
  refine x_iconst (v := (0 : Int32)) dX4_findOrder_157 (by decide) ?_
  exact K
theorem bX4_findOrder_158 {I : Nat → Nat → Int32} {L : Nat → Int64} {Q : Option Value → (Nat → Nat → Int32) → (Nat → Int64) → Prop} {s0 : Int32} (hz1 : s0 = 0 ∨ s0 = 1) (K : Q (some (.int s0)) I L) : XS mX4_findOrder 158 [] [.int s0] I L Q := by
  exact xs_iret dX4_findOrder_158 rfl (x_nar _ hz1) K
theorem bX4_firstToLearn_0 {I : Nat → Nat → Int32} {L : Nat → Int64} {Q : Option Value → (Nat → Nat → Int32) → (Nat → Int64) → Prop} {v1 : Int32} {v2 : Int32}  (K : XS mX4_firstToLearn 2 [(0, .ref 20), (1, .int v1), (2, .int v2), (3, .int (0 : Int32))] [] I L Q) : XS mX4_firstToLearn 0 [(0, .ref 20), (1, .int v1), (2, .int v2)] [] I L Q := by
  refine x_iconst (v := (0 : Int32)) dX4_firstToLearn_0 (by decide) ?_
  refine x_istore_n [(0, .ref 20), (1, .int v1), (2, .int v2), (3, .int (0 : Int32))] dX4_firstToLearn_1 rfl (Nat.le_of_ble_eq_true rfl) rfl ?_
  exact K
theorem bX4_firstToLearn_2 {I : Nat → Nat → Int32} {L : Nat → Int64} {Q : Option Value → (Nat → Nat → Int32) → (Nat → Int64) → Prop} {v1 : Int32} {v2 : Int32} {v3 : Int32}  (K1 : ((I 64 0) ≤ v3) → XS mX4_firstToLearn 70 [] [] I L Q) (K2 : (¬ (I 64 0) ≤ v3) → XS mX4_firstToLearn 13 [(0, .ref 20), (1, .int v1), (2, .int v2), (3, .int v3)] [] I L Q) : XS mX4_firstToLearn 2 [(0, .ref 20), (1, .int v1), (2, .int v2), (3, .int v3)] [] I L Q := by
  refine x_iload_n 3 dX4_firstToLearn_2 rfl rfl ?_
  refine x_aload_n 0 dX4_firstToLearn_3 rfl rfl ?_
  refine xs_getr dX4_firstToLearn_4 fl_X4_31 sh_20 rfl rf_1280 ?_
  refine xs_geti 64 dX4_firstToLearn_7 fl_X4_39 sh_1 rfl rfl ?_
  exact x_icmp_ge 70 dX4_firstToLearn_10 (by decide) (fun h => x_sub [] rfl (K1 h)) (fun h => K2 h)
theorem bX4_firstToLearn_13 {I : Nat → Nat → Int32} {L : Nat → Int64} {Q : Option Value → (Nat → Nat → Int32) → (Nat → Int64) → Prop} {v1 : Int32} {v2 : Int32} {v3 : Int32}  (K1 : (¬ ((v1 >>> (v3 &&& 31)) &&& (1 : Int32)) = (1 : Int32)) → XS mX4_firstToLearn 64 [(0, .ref 20), (1, .int v1), (2, .int v2), (3, .int v3)] [] I L Q) (K2 : (((v1 >>> (v3 &&& 31)) &&& (1 : Int32)) = (1 : Int32)) → XS mX4_firstToLearn 29 [(0, .ref 20), (1, .int v1), (2, .int v2), (3, .int v3), (4, .int (v2 ||| ((1 : Int32) <<< (v3 &&& 31))))] [] I L Q) : XS mX4_firstToLearn 13 [(0, .ref 20), (1, .int v1), (2, .int v2), (3, .int v3)] [] I L Q := by
  refine x_iload_n 2 dX4_firstToLearn_13 rfl rfl ?_
  refine x_iconst (v := (1 : Int32)) dX4_firstToLearn_14 (by decide) ?_
  refine x_iload_n 3 dX4_firstToLearn_15 rfl rfl ?_
  refine x_ishl dX4_firstToLearn_16 ?_
  refine x_ior dX4_firstToLearn_17 ?_
  refine x_istore [(0, .ref 20), (1, .int v1), (2, .int v2), (3, .int v3), (4, .int (v2 ||| ((1 : Int32) <<< (v3 &&& 31))))] dX4_firstToLearn_18 (Nat.le_of_ble_eq_true rfl) rfl ?_
  refine x_iload_n 1 dX4_firstToLearn_20 rfl rfl ?_
  refine x_iload_n 3 dX4_firstToLearn_21 rfl rfl ?_
  refine x_ishr dX4_firstToLearn_22 ?_
  refine x_iconst (v := (1 : Int32)) dX4_firstToLearn_23 (by decide) ?_
  refine x_iand dX4_firstToLearn_24 ?_
  refine x_iconst (v := (1 : Int32)) dX4_firstToLearn_25 (by decide) ?_
  exact x_icmp_ne 64 dX4_firstToLearn_26 (by decide) (fun h => x_sub [0, 1, 2, 3] rfl (K1 h)) (fun h => K2 h)
theorem bX4_firstToLearn_29 {I : Nat → Nat → Int32} {L : Nat → Int64} {Q : Option Value → (Nat → Nat → Int32) → (Nat → Int64) → Prop} {v1 : Int32} {v2 : Int32} {v3 : Int32} {v4 : Int32}  (K1 : (v4 = v2) → XS mX4_firstToLearn 64 [(0, .ref 20), (1, .int v1), (2, .int v2), (3, .int v3)] [] I L Q) (K2 : (¬ v4 = v2) → XS mX4_firstToLearn 35 [(0, .ref 20), (1, .int v1), (2, .int v2), (3, .int v3), (4, .int v4)] [] I L Q) : XS mX4_firstToLearn 29 [(0, .ref 20), (1, .int v1), (2, .int v2), (3, .int v3), (4, .int v4)] [] I L Q := by
  refine x_iload 4 dX4_firstToLearn_29 rfl ?_
  refine x_iload_n 2 dX4_firstToLearn_31 rfl rfl ?_
  exact x_icmp_eq 64 dX4_firstToLearn_32 (by decide) (fun h => x_sub [0, 1, 2, 3] rfl (K1 h)) (fun h => K2 h)
theorem bX4_firstToLearn_35 {I : Nat → Nat → Int32} {L : Nat → Int64} {Q : Option Value → (Nat → Nat → Int32) → (Nat → Int64) → Prop} {v1 : Int32} {v2 : Int32} {v3 : Int32} {v4 : Int32} (hb1 : vp_in v4 256) (K1 : (¬ (I 1472 (v4.toNatClampNeg)) = 0) → XS mX4_firstToLearn 64 [(0, .ref 20), (1, .int v1), (2, .int v2), (3, .int v3)] [] I L Q) (K2 : ((I 1472 (v4.toNatClampNeg)) = 0) → XS mX4_firstToLearn 45 [(0, .ref 20), (1, .int v1), (2, .int v2), (3, .int v3), (4, .int v4)] [] I L Q) : XS mX4_firstToLearn 35 [(0, .ref 20), (1, .int v1), (2, .int v2), (3, .int v3), (4, .int v4)] [] I L Q := by
  refine x_aload_n 0 dX4_firstToLearn_35 rfl rfl ?_
  refine xs_getr dX4_firstToLearn_36 fl_X4_18 sh_20 rfl rf_1284 ?_
  refine x_iload 4 dX4_firstToLearn_39 rfl ?_
  refine xs_zald 1472 (v4.toNatClampNeg) dX4_firstToLearn_41 sh_23 rfl rfl hb1 ?_
  exact x_if_ne 64 dX4_firstToLearn_42 (by decide) (fun h => x_sub [0, 1, 2, 3] rfl (K1 h)) (fun h => K2 h)
theorem bX4_firstToLearn_45 {I : Nat → Nat → Int32} {L : Nat → Int64} {Q : Option Value → (Nat → Nat → Int32) → (Nat → Int64) → Prop} {v1 : Int32} {v2 : Int32} {v3 : Int32} {v4 : Int32}  (K : XS mX4_hasRings 0 [(0, .ref 20), (1, .int v4)] [] I L (fun r I' L' => XS mX4_firstToLearn 51 [(0, .ref 20), (1, .int v1), (2, .int v2), (3, .int v3), (4, .int v4)] (r.toList ++ []) I' L' Q)) : XS mX4_firstToLearn 45 [(0, .ref 20), (1, .int v1), (2, .int v2), (3, .int v3), (4, .int v4)] [] I L Q := by
  refine x_aload_n 0 dX4_firstToLearn_45 rfl rfl ?_
  refine x_iload 4 dX4_firstToLearn_46 rfl ?_
  exact xs_callV mX4_hasRings [.int v4] [] 20 4 1 _ rfl dX4_firstToLearn_48 ml_X4_91 qX4_hasRings rfl ⟨Nat.le_of_ble_eq_true rfl, Nat.le_of_ble_eq_true rfl⟩ ⟨rfl, rfl⟩ (Nat.le_of_ble_eq_true rfl) sh_20 (by decide) rfl (Nat.le_of_ble_eq_true rfl) (K)
theorem bX4_firstToLearn_51 {I : Nat → Nat → Int32} {L : Nat → Int64} {Q : Option Value → (Nat → Nat → Int32) → (Nat → Int64) → Prop} {v1 : Int32} {v2 : Int32} {v3 : Int32} {v4 : Int32} {s0 : Int32}  (K1 : (¬ s0 = 0) → XS mX4_firstToLearn 56 [(0, .ref 20), (1, .int v1), (2, .int v2), (3, .int v3), (4, .int v4)] [] I L Q) (K2 : (s0 = 0) → XS mX4_firstToLearn 54 [(3, .int v3)] [] I L Q) : XS mX4_firstToLearn 51 [(0, .ref 20), (1, .int v1), (2, .int v2), (3, .int v3), (4, .int v4)] [.int s0] I L Q := by
  exact x_if_ne 56 dX4_firstToLearn_51 (by decide) (fun h => K1 h) (fun h => x_sub [3] rfl (K2 h))
theorem bX4_firstToLearn_54 {I : Nat → Nat → Int32} {L : Nat → Int64} {Q : Option Value → (Nat → Nat → Int32) → (Nat → Int64) → Prop} {v3 : Int32}  (K : Q (some (.int v3)) I L) : XS mX4_firstToLearn 54 [(3, .int v3)] [] I L Q := by
  refine x_iload_n 0 dX4_firstToLearn_54 rfl rfl ?_
  exact xs_iret dX4_firstToLearn_55 rfl rfl K
theorem bX4_firstToLearn_56 {I : Nat → Nat → Int32} {L : Nat → Int64} {Q : Option Value → (Nat → Nat → Int32) → (Nat → Int64) → Prop} {v1 : Int32} {v2 : Int32} {v3 : Int32} {v4 : Int32} (hb1 : vp_in v4 256) (K : XS mX4_firstToLearn 64 [(0, .ref 20), (1, .int v1), (2, .int v2), (3, .int v3)] [] (x_up I 1472 (v4.toNatClampNeg) (1 : Int32)) L Q) : XS mX4_firstToLearn 56 [(0, .ref 20), (1, .int v1), (2, .int v2), (3, .int v3), (4, .int v4)] [] I L Q := by
  refine x_aload_n 0 dX4_firstToLearn_56 rfl rfl ?_
  refine xs_getr dX4_firstToLearn_57 fl_X4_18 sh_20 rfl rf_1284 ?_
  refine x_iload 4 dX4_firstToLearn_60 rfl ?_
  refine x_iconst (v := (1 : Int32)) dX4_firstToLearn_62 (by decide) ?_
  refine xs_zast 1472 (v4.toNatClampNeg) dX4_firstToLearn_63 sh_23 rfl rfl hb1 (Or.inr rfl) ?_
  exact x_sub [0, 1, 2, 3] rfl (K)
theorem bX4_firstToLearn_64 {I : Nat → Nat → Int32} {L : Nat → Int64} {Q : Option Value → (Nat → Nat → Int32) → (Nat → Int64) → Prop} {v1 : Int32} {v2 : Int32} {v3 : Int32}  (K : XS mX4_firstToLearn 2 [(0, .ref 20), (1, .int v1), (2, .int v2), (3, .int (v3 + (1 : Int32)))] [] I L Q) : XS mX4_firstToLearn 64 [(0, .ref 20), (1, .int v1), (2, .int v2), (3, .int v3)] [] I L Q := by
  refine x_iinc 3 (v3 + (1 : Int32)) [(0, .ref 20), (1, .int v1), (2, .int v2), (3, .int (v3 + (1 : Int32)))] dX4_firstToLearn_64 rfl rfl (Nat.le_of_ble_eq_true rfl) rfl ?_
  exact x_goto 2 dX4_firstToLearn_67 (by decide) (K)
theorem bX4_firstToLearn_70 {I : Nat → Nat → Int32} {L : Nat → Int64} {Q : Option Value → (Nat → Nat → Int32) → (Nat → Int64) → Prop}   (K : Q (some (.int (-1 : Int32))) I L) : XS mX4_firstToLearn 70 [] [] I L Q := by
  refine x_iconst (v := (-1 : Int32)) dX4_firstToLearn_70 (by decide) ?_
  exact xs_iret dX4_firstToLearn_71 rfl rfl K
