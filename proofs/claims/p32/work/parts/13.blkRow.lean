/-! ===== blocks ===== -/
theorem bX3_keepUp_0 {I : Nat → Nat → Int32} {L : Nat → Int64} {Q : Option Value → (Nat → Nat → Int32) → (Nat → Int64) → Prop}   (K : XS mX3_keep 0 [(0, .ref 11), (1, .int (0 : Int32)), (2, .int (0 : Int32)), (3, .int (I 66 0)), (4, .int (0 : Int32))] [] I L (fun r I' L' => XS mX3_keepUp 14 [] (r.toList ++ []) I' L' Q)) : XS mX3_keepUp 0 [(0, .ref 11)] [] I L Q := by
  refine x_aload_n 0 dX3_keepUp_0 rfl rfl ?_
  refine x_iconst (v := (0 : Int32)) dX3_keepUp_1 (by decide) ?_
  refine x_iconst (v := (0 : Int32)) dX3_keepUp_2 (by decide) ?_
  refine x_aload_n 0 dX3_keepUp_3 rfl rfl ?_
  refine xs_getr dX3_keepUp_4 fl_X3_31 sh_11 rfl rf_704 ?_
  refine xs_geti 66 dX3_keepUp_7 fl_X3_35 sh_1 rfl rfl ?_
  refine x_iconst (v := (0 : Int32)) dX3_keepUp_10 (by decide) ?_
  refine x_sub [] rfl ?_
  exact xs_callV mX3_keep [.int (0 : Int32), .int (0 : Int32), .int (I 66 0), .int (0 : Int32)] [] 11 3 4 _ rfl dX3_keepUp_11 ml_X3_40 qX3_keep rfl ⟨Nat.le_of_ble_eq_true rfl, Nat.le_of_ble_eq_true rfl⟩ ⟨rfl, rfl⟩ (Nat.le_of_ble_eq_true rfl) sh_11 (by decide) rfl (Nat.le_of_ble_eq_true rfl) (K)
theorem bX3_keepUp_14 {I : Nat → Nat → Int32} {L : Nat → Int64} {Q : Option Value → (Nat → Nat → Int32) → (Nat → Int64) → Prop}   (K : Q none I L) : XS mX3_keepUp 14 [] [] I L Q := by
  exact xs_end dX3_keepUp_14 rfl K
theorem bX3_keepPrices_0 {I : Nat → Nat → Int32} {L : Nat → Int64} {Q : Option Value → (Nat → Nat → Int32) → (Nat → Int64) → Prop} {v1 : Int32} (hb1 : vp_in v1 14) (hb2 : vp_in v1 14) (K : XS mX3_keep 0 [(0, .ref 11), (1, .int (1 : Int32)), (2, .int v1), (3, .int (I 256 (v1.toNatClampNeg))), (4, .int (I 320 (v1.toNatClampNeg)))] [] I L (fun r I' L' => XS mX3_keepPrices 24 [] (r.toList ++ []) I' L' Q)) : XS mX3_keepPrices 0 [(0, .ref 11), (1, .int v1)] [] I L Q := by
  refine x_aload_n 0 dX3_keepPrices_0 rfl rfl ?_
  refine x_iconst (v := (1 : Int32)) dX3_keepPrices_1 (by decide) ?_
  refine x_iload_n 1 dX3_keepPrices_2 rfl rfl ?_
  refine x_aload_n 0 dX3_keepPrices_3 rfl rfl ?_
  refine xs_getr dX3_keepPrices_4 fl_X3_31 sh_11 rfl rf_704 ?_
  refine xs_getr dX3_keepPrices_7 fl_X3_44 sh_1 rfl rf_69 ?_
  refine x_iload_n 1 dX3_keepPrices_10 rfl rfl ?_
  refine xs_iald 256 (v1.toNatClampNeg) dX3_keepPrices_11 sh_4 rfl rfl hb1 ?_
  refine x_aload_n 0 dX3_keepPrices_12 rfl rfl ?_
  refine xs_getr dX3_keepPrices_13 fl_X3_31 sh_11 rfl rf_704 ?_
  refine xs_getr dX3_keepPrices_16 fl_X3_47 sh_1 rfl rf_70 ?_
  refine x_iload_n 1 dX3_keepPrices_19 rfl rfl ?_
  refine xs_iald 320 (v1.toNatClampNeg) dX3_keepPrices_20 sh_5 rfl rfl hb2 ?_
  refine x_sub [] rfl ?_
  exact xs_callV mX3_keep [.int (1 : Int32), .int v1, .int (I 256 (v1.toNatClampNeg)), .int (I 320 (v1.toNatClampNeg))] [] 11 3 4 _ rfl dX3_keepPrices_21 ml_X3_40 qX3_keep rfl ⟨Nat.le_of_ble_eq_true rfl, Nat.le_of_ble_eq_true rfl⟩ ⟨rfl, rfl⟩ (Nat.le_of_ble_eq_true rfl) sh_11 (by decide) rfl (Nat.le_of_ble_eq_true rfl) (K)
theorem bX3_keepPrices_24 {I : Nat → Nat → Int32} {L : Nat → Int64} {Q : Option Value → (Nat → Nat → Int32) → (Nat → Int64) → Prop}   (K : Q none I L) : XS mX3_keepPrices 24 [] [] I L Q := by
  exact xs_end dX3_keepPrices_24 rfl K
theorem bX3_keepSeen_0 {I : Nat → Nat → Int32} {L : Nat → Int64} {Q : Option Value → (Nat → Nat → Int32) → (Nat → Int64) → Prop} {v1 : Int32} (hb1 : vp_in v1 8) (K : XS mX3_keep 0 [(0, .ref 11), (1, .int (2 : Int32)), (2, .int v1), (3, .int (I 448 (v1.toNatClampNeg))), (4, .int (0 : Int32))] [] I L (fun r I' L' => XS mX3_keepSeen 16 [] (r.toList ++ []) I' L' Q)) : XS mX3_keepSeen 0 [(0, .ref 11), (1, .int v1)] [] I L Q := by
  refine x_aload_n 0 dX3_keepSeen_0 rfl rfl ?_
  refine x_iconst (v := (2 : Int32)) dX3_keepSeen_1 (by decide) ?_
  refine x_iload_n 1 dX3_keepSeen_2 rfl rfl ?_
  refine x_aload_n 0 dX3_keepSeen_3 rfl rfl ?_
  refine xs_getr dX3_keepSeen_4 fl_X3_31 sh_11 rfl rf_704 ?_
  refine xs_getr dX3_keepSeen_7 fl_X3_50 sh_1 rfl rf_72 ?_
  refine x_iload_n 1 dX3_keepSeen_10 rfl rfl ?_
  refine xs_iald 448 (v1.toNatClampNeg) dX3_keepSeen_11 sh_7 rfl rfl hb1 ?_
  refine x_iconst (v := (0 : Int32)) dX3_keepSeen_12 (by decide) ?_
  refine x_sub [] rfl ?_
  exact xs_callV mX3_keep [.int (2 : Int32), .int v1, .int (I 448 (v1.toNatClampNeg)), .int (0 : Int32)] [] 11 3 4 _ rfl dX3_keepSeen_13 ml_X3_40 qX3_keep rfl ⟨Nat.le_of_ble_eq_true rfl, Nat.le_of_ble_eq_true rfl⟩ ⟨rfl, rfl⟩ (Nat.le_of_ble_eq_true rfl) sh_11 (by decide) rfl (Nat.le_of_ble_eq_true rfl) (K)
theorem bX3_keepSeen_16 {I : Nat → Nat → Int32} {L : Nat → Int64} {Q : Option Value → (Nat → Nat → Int32) → (Nat → Int64) → Prop}   (K : Q none I L) : XS mX3_keepSeen 16 [] [] I L Q := by
  exact xs_end dX3_keepSeen_16 rfl K
theorem bX3_keep_0 {I : Nat → Nat → Int32} {L : Nat → Int64} {Q : Option Value → (Nat → Nat → Int32) → (Nat → Int64) → Prop} {v1 : Int32} {v2 : Int32} {v3 : Int32} {v4 : Int32} (hb1 : vp_in (I 709 0) 8) (hb2 : vp_in ((x_up I 768 ((I 709 0).toNatClampNeg) v1) 709 0) 8) (hb3 : vp_in ((x_up (x_up I 768 ((I 709 0).toNatClampNeg) v1) 832 (((x_up I 768 ((I 709 0).toNatClampNeg) v1) 709 0).toNatClampNeg) v2) 709 0) 8) (hb4 : vp_in ((x_up (x_up (x_up I 768 ((I 709 0).toNatClampNeg) v1) 832 (((x_up I 768 ((I 709 0).toNatClampNeg) v1) 709 0).toNatClampNeg) v2) 896 (((x_up (x_up I 768 ((I 709 0).toNatClampNeg) v1) 832 (((x_up I 768 ((I 709 0).toNatClampNeg) v1) 709 0).toNatClampNeg) v2) 709 0).toNatClampNeg) v3) 709 0) 8) (K1 : ((8 : Int32) ≤ (((x_up (x_up (x_up (x_up I 768 ((I 709 0).toNatClampNeg) v1) 832 (((x_up I 768 ((I 709 0).toNatClampNeg) v1) 709 0).toNatClampNeg) v2) 896 (((x_up (x_up I 768 ((I 709 0).toNatClampNeg) v1) 832 (((x_up I 768 ((I 709 0).toNatClampNeg) v1) 709 0).toNatClampNeg) v2) 709 0).toNatClampNeg) v3) 960 (((x_up (x_up (x_up I 768 ((I 709 0).toNatClampNeg) v1) 832 (((x_up I 768 ((I 709 0).toNatClampNeg) v1) 709 0).toNatClampNeg) v2) 896 (((x_up (x_up I 768 ((I 709 0).toNatClampNeg) v1) 832 (((x_up I 768 ((I 709 0).toNatClampNeg) v1) 709 0).toNatClampNeg) v2) 709 0).toNatClampNeg) v3) 709 0).toNatClampNeg) v4) 709 0) + (1 : Int32))) → XS mX3_keep 62 [(0, .ref 11)] [.ref 11] (x_up (x_up (x_up (x_up I 768 ((I 709 0).toNatClampNeg) v1) 832 (((x_up I 768 ((I 709 0).toNatClampNeg) v1) 709 0).toNatClampNeg) v2) 896 (((x_up (x_up I 768 ((I 709 0).toNatClampNeg) v1) 832 (((x_up I 768 ((I 709 0).toNatClampNeg) v1) 709 0).toNatClampNeg) v2) 709 0).toNatClampNeg) v3) 960 (((x_up (x_up (x_up I 768 ((I 709 0).toNatClampNeg) v1) 832 (((x_up I 768 ((I 709 0).toNatClampNeg) v1) 709 0).toNatClampNeg) v2) 896 (((x_up (x_up I 768 ((I 709 0).toNatClampNeg) v1) 832 (((x_up I 768 ((I 709 0).toNatClampNeg) v1) 709 0).toNatClampNeg) v2) 709 0).toNatClampNeg) v3) 709 0).toNatClampNeg) v4) L Q) (K2 : (¬ (8 : Int32) ≤ (((x_up (x_up (x_up (x_up I 768 ((I 709 0).toNatClampNeg) v1) 832 (((x_up I 768 ((I 709 0).toNatClampNeg) v1) 709 0).toNatClampNeg) v2) 896 (((x_up (x_up I 768 ((I 709 0).toNatClampNeg) v1) 832 (((x_up I 768 ((I 709 0).toNatClampNeg) v1) 709 0).toNatClampNeg) v2) 709 0).toNatClampNeg) v3) 960 (((x_up (x_up (x_up I 768 ((I 709 0).toNatClampNeg) v1) 832 (((x_up I 768 ((I 709 0).toNatClampNeg) v1) 709 0).toNatClampNeg) v2) 896 (((x_up (x_up I 768 ((I 709 0).toNatClampNeg) v1) 832 (((x_up I 768 ((I 709 0).toNatClampNeg) v1) 709 0).toNatClampNeg) v2) 709 0).toNatClampNeg) v3) 709 0).toNatClampNeg) v4) 709 0) + (1 : Int32))) → XS mX3_keep 53 [(0, .ref 11)] [.ref 11] (x_up (x_up (x_up (x_up I 768 ((I 709 0).toNatClampNeg) v1) 832 (((x_up I 768 ((I 709 0).toNatClampNeg) v1) 709 0).toNatClampNeg) v2) 896 (((x_up (x_up I 768 ((I 709 0).toNatClampNeg) v1) 832 (((x_up I 768 ((I 709 0).toNatClampNeg) v1) 709 0).toNatClampNeg) v2) 709 0).toNatClampNeg) v3) 960 (((x_up (x_up (x_up I 768 ((I 709 0).toNatClampNeg) v1) 832 (((x_up I 768 ((I 709 0).toNatClampNeg) v1) 709 0).toNatClampNeg) v2) 896 (((x_up (x_up I 768 ((I 709 0).toNatClampNeg) v1) 832 (((x_up I 768 ((I 709 0).toNatClampNeg) v1) 709 0).toNatClampNeg) v2) 709 0).toNatClampNeg) v3) 709 0).toNatClampNeg) v4) L Q) : XS mX3_keep 0 [(0, .ref 11), (1, .int v1), (2, .int v2), (3, .int v3), (4, .int v4)] [] I L Q := by
  refine x_aload_n 0 dX3_keep_0 rfl rfl ?_
  refine xs_getr dX3_keep_1 fl_X3_9 sh_11 rfl rf_705 ?_
  refine x_aload_n 0 dX3_keep_4 rfl rfl ?_
  refine xs_geti 709 dX3_keep_5 fl_X3_24 sh_11 rfl rfl ?_
  refine x_iload_n 1 dX3_keep_8 rfl rfl ?_
  refine xs_iast 768 ((I 709 0).toNatClampNeg) dX3_keep_9 sh_12 rfl rfl hb1 ?_
  refine x_aload_n 0 dX3_keep_10 rfl rfl ?_
  refine xs_getr dX3_keep_11 fl_X3_15 sh_11 rfl rf_706 ?_
  refine x_aload_n 0 dX3_keep_14 rfl rfl ?_
  refine xs_geti 709 dX3_keep_15 fl_X3_24 sh_11 rfl rfl ?_
  refine x_iload_n 2 dX3_keep_18 rfl rfl ?_
  refine xs_iast 832 (((x_up I 768 ((I 709 0).toNatClampNeg) v1) 709 0).toNatClampNeg) dX3_keep_19 sh_13 rfl rfl hb2 ?_
  refine x_aload_n 0 dX3_keep_20 rfl rfl ?_
  refine xs_getr dX3_keep_21 fl_X3_18 sh_11 rfl rf_707 ?_
  refine x_aload_n 0 dX3_keep_24 rfl rfl ?_
  refine xs_geti 709 dX3_keep_25 fl_X3_24 sh_11 rfl rfl ?_
  refine x_iload_n 3 dX3_keep_28 rfl rfl ?_
  refine xs_iast 896 (((x_up (x_up I 768 ((I 709 0).toNatClampNeg) v1) 832 (((x_up I 768 ((I 709 0).toNatClampNeg) v1) 709 0).toNatClampNeg) v2) 709 0).toNatClampNeg) dX3_keep_29 sh_14 rfl rfl hb3 ?_
  refine x_aload_n 0 dX3_keep_30 rfl rfl ?_
  refine xs_getr dX3_keep_31 fl_X3_21 sh_11 rfl rf_708 ?_
  refine x_aload_n 0 dX3_keep_34 rfl rfl ?_
  refine xs_geti 709 dX3_keep_35 fl_X3_24 sh_11 rfl rfl ?_
  refine x_iload 4 dX3_keep_38 rfl ?_
  refine xs_iast 960 (((x_up (x_up (x_up I 768 ((I 709 0).toNatClampNeg) v1) 832 (((x_up I 768 ((I 709 0).toNatClampNeg) v1) 709 0).toNatClampNeg) v2) 896 (((x_up (x_up I 768 ((I 709 0).toNatClampNeg) v1) 832 (((x_up I 768 ((I 709 0).toNatClampNeg) v1) 709 0).toNatClampNeg) v2) 709 0).toNatClampNeg) v3) 709 0).toNatClampNeg) dX3_keep_40 sh_15 rfl rfl hb4 ?_
  refine x_aload_n 0 dX3_keep_41 rfl rfl ?_
  refine x_aload_n 0 dX3_keep_42 rfl rfl ?_
  refine xs_geti 709 dX3_keep_43 fl_X3_24 sh_11 rfl rfl ?_
  refine x_iconst (v := (1 : Int32)) dX3_keep_46 (by decide) ?_
  refine x_iadd dX3_keep_47 ?_
  refine x_bipush (v := (8 : Int32)) dX3_keep_48 (by decide) ?_
  exact x_icmp_ge 62 dX3_keep_50 (by decide) (fun h => x_sub [0] rfl (K1 h)) (fun h => x_sub [0] rfl (K2 h))
theorem bX3_keep_53 {I : Nat → Nat → Int32} {L : Nat → Int64} {Q : Option Value → (Nat → Nat → Int32) → (Nat → Int64) → Prop}   (K : XS mX3_keep 63 [(0, .ref 11)] [.int ((I 709 0) + (1 : Int32)), .ref 11] I L Q) : XS mX3_keep 53 [(0, .ref 11)] [.ref 11] I L Q := by
  refine x_aload_n 0 dX3_keep_53 rfl rfl ?_
  refine xs_geti 709 dX3_keep_54 fl_X3_24 sh_11 rfl rfl ?_
  refine x_iconst (v := (1 : Int32)) dX3_keep_57 (by decide) ?_
  refine x_iadd dX3_keep_58 ?_
  exact x_goto 63 dX3_keep_59 (by decide) (K)
theorem bX3_keep_62 {I : Nat → Nat → Int32} {L : Nat → Int64} {Q : Option Value → (Nat → Nat → Int32) → (Nat → Int64) → Prop}   (K : XS mX3_keep 63 [(0, .ref 11)] [.int (0 : Int32), .ref 11] I L Q) : XS mX3_keep 62 [(0, .ref 11)] [.ref 11] I L Q := by
  refine x_iconst (v := (0 : Int32)) dX3_keep_62 (by decide) ?_
  exact K
theorem bX3_keep_63 {I : Nat → Nat → Int32} {L : Nat → Int64} {Q : Option Value → (Nat → Nat → Int32) → (Nat → Int64) → Prop} {s1 : Int32}  (K : Q none (x_up (x_up I 709 0 s1) 710 0 (if (8 : Int32) < (((x_up I 709 0 s1) 710 0) + (1 : Int32)) then (8 : Int32) else (((x_up I 709 0 s1) 710 0) + (1 : Int32)))) L) : XS mX3_keep 63 [(0, .ref 11)] [.int s1, .ref 11] I L Q := by
  refine xs_puti 709 dX3_keep_63 fl_X3_24 sh_11 rfl rfl rfl ?_
  refine x_aload_n 0 dX3_keep_66 rfl rfl ?_
  refine x_aload_n 0 dX3_keep_67 rfl rfl ?_
  refine xs_geti 710 dX3_keep_68 fl_X3_28 sh_11 rfl rfl ?_
  refine x_iconst (v := (1 : Int32)) dX3_keep_71 (by decide) ?_
  refine x_iadd dX3_keep_72 ?_
  refine x_bipush (v := (8 : Int32)) dX3_keep_73 (by decide) ?_
  refine x_mathMin dX3_keep_75 ml_X3_53 qm_min.1 qm_min.2.1 qm_min.2.2 (Nat.le_of_ble_eq_true rfl) (Nat.le_of_ble_eq_true rfl) ?_
  refine xs_puti 710 dX3_keep_78 fl_X3_28 sh_11 rfl rfl rfl ?_
  exact xs_end dX3_keep_81 rfl K
theorem bX3_takeBack_0 {I : Nat → Nat → Int32} {L : Nat → Int64} {Q : Option Value → (Nat → Nat → Int32) → (Nat → Int64) → Prop}   (K1 : ((I 709 0) ≤ 0) → XS mX3_takeBack 17 [(0, .ref 11)] [.ref 11] I L Q) (K2 : (¬ (I 709 0) ≤ 0) → XS mX3_takeBack 8 [(0, .ref 11)] [.ref 11] I L Q) : XS mX3_takeBack 0 [(0, .ref 11)] [] I L Q := by
  refine x_aload_n 0 dX3_takeBack_0 rfl rfl ?_
  refine x_aload_n 0 dX3_takeBack_1 rfl rfl ?_
  refine xs_geti 709 dX3_takeBack_2 fl_X3_24 sh_11 rfl rfl ?_
  exact x_if_le 17 dX3_takeBack_5 (by decide) (fun h => K1 h) (fun h => K2 h)
theorem bX3_takeBack_8 {I : Nat → Nat → Int32} {L : Nat → Int64} {Q : Option Value → (Nat → Nat → Int32) → (Nat → Int64) → Prop}   (K : XS mX3_takeBack 19 [(0, .ref 11)] [.int ((I 709 0) - (1 : Int32)), .ref 11] I L Q) : XS mX3_takeBack 8 [(0, .ref 11)] [.ref 11] I L Q := by
  refine x_aload_n 0 dX3_takeBack_8 rfl rfl ?_
  refine xs_geti 709 dX3_takeBack_9 fl_X3_24 sh_11 rfl rfl ?_
  refine x_iconst (v := (1 : Int32)) dX3_takeBack_12 (by decide) ?_
  refine x_isub dX3_takeBack_13 ?_
  exact x_goto 19 dX3_takeBack_14 (by decide) (K)
theorem bX3_takeBack_17 {I : Nat → Nat → Int32} {L : Nat → Int64} {Q : Option Value → (Nat → Nat → Int32) → (Nat → Int64) → Prop}   (K : XS mX3_takeBack 19 [(0, .ref 11)] [.int (7 : Int32), .ref 11] I L Q) : XS mX3_takeBack 17 [(0, .ref 11)] [.ref 11] I L Q := by
  refine x_bipush (v := (7 : Int32)) dX3_takeBack_17 (by decide) ?_
  exact K
theorem bX3_takeBack_19 {I : Nat → Nat → Int32} {L : Nat → Int64} {Q : Option Value → (Nat → Nat → Int32) → (Nat → Int64) → Prop} {s1 : Int32} (hb1 : vp_in ((x_up (x_up I 709 0 s1) 710 0 (((x_up I 709 0 s1) 710 0) - (1 : Int32))) 709 0) 8) (hb2 : vp_in ((x_up (x_up I 709 0 s1) 710 0 (((x_up I 709 0 s1) 710 0) - (1 : Int32))) 709 0) 8) (K1 : (¬ ((x_up (x_up I 709 0 s1) 710 0 (((x_up I 709 0 s1) 710 0) - (1 : Int32))) 768 (((x_up (x_up I 709 0 s1) 710 0 (((x_up I 709 0 s1) 710 0) - (1 : Int32))) 709 0).toNatClampNeg)) = 0) → XS mX3_takeBack 73 [(0, .ref 11), (1, .int ((x_up (x_up I 709 0 s1) 710 0 (((x_up I 709 0 s1) 710 0) - (1 : Int32))) 832 (((x_up (x_up I 709 0 s1) 710 0 (((x_up I 709 0 s1) 710 0) - (1 : Int32))) 709 0).toNatClampNeg)))] [] (x_up (x_up I 709 0 s1) 710 0 (((x_up I 709 0 s1) 710 0) - (1 : Int32))) L Q) (K2 : (((x_up (x_up I 709 0 s1) 710 0 (((x_up I 709 0 s1) 710 0) - (1 : Int32))) 768 (((x_up (x_up I 709 0 s1) 710 0 (((x_up I 709 0 s1) 710 0) - (1 : Int32))) 709 0).toNatClampNeg)) = 0) → XS mX3_takeBack 54 [(0, .ref 11)] [] (x_up (x_up I 709 0 s1) 710 0 (((x_up I 709 0 s1) 710 0) - (1 : Int32))) L Q) : XS mX3_takeBack 19 [(0, .ref 11)] [.int s1, .ref 11] I L Q := by
  refine xs_puti 709 dX3_takeBack_19 fl_X3_24 sh_11 rfl rfl rfl ?_
  refine x_aload_n 0 dX3_takeBack_22 rfl rfl ?_
  refine x_dup dX3_takeBack_23 rfl ?_
  refine xs_geti 710 dX3_takeBack_24 fl_X3_28 sh_11 rfl rfl ?_
  refine x_iconst (v := (1 : Int32)) dX3_takeBack_27 (by decide) ?_
  refine x_isub dX3_takeBack_28 ?_
  refine xs_puti 710 dX3_takeBack_29 fl_X3_28 sh_11 rfl rfl rfl ?_
  refine x_aload_n 0 dX3_takeBack_32 rfl rfl ?_
  refine xs_getr dX3_takeBack_33 fl_X3_15 sh_11 rfl rf_706 ?_
  refine x_aload_n 0 dX3_takeBack_36 rfl rfl ?_
  refine xs_geti 709 dX3_takeBack_37 fl_X3_24 sh_11 rfl rfl ?_
  refine xs_iald 832 (((x_up (x_up I 709 0 s1) 710 0 (((x_up I 709 0 s1) 710 0) - (1 : Int32))) 709 0).toNatClampNeg) dX3_takeBack_40 sh_13 rfl rfl hb1 ?_
  refine x_istore_n [(0, .ref 11), (1, .int ((x_up (x_up I 709 0 s1) 710 0 (((x_up I 709 0 s1) 710 0) - (1 : Int32))) 832 (((x_up (x_up I 709 0 s1) 710 0 (((x_up I 709 0 s1) 710 0) - (1 : Int32))) 709 0).toNatClampNeg)))] dX3_takeBack_41 rfl (Nat.le_of_ble_eq_true rfl) rfl ?_
  refine x_aload_n 0 dX3_takeBack_42 rfl rfl ?_
  refine xs_getr dX3_takeBack_43 fl_X3_9 sh_11 rfl rf_705 ?_
  refine x_aload_n 0 dX3_takeBack_46 rfl rfl ?_
  refine xs_geti 709 dX3_takeBack_47 fl_X3_24 sh_11 rfl rfl ?_
  refine xs_iald 768 (((x_up (x_up I 709 0 s1) 710 0 (((x_up I 709 0 s1) 710 0) - (1 : Int32))) 709 0).toNatClampNeg) dX3_takeBack_50 sh_12 rfl rfl hb2 ?_
  exact x_if_ne 73 dX3_takeBack_51 (by decide) (fun h => K1 h) (fun h => x_sub [0] rfl (K2 h))
theorem bX3_takeBack_54 {I : Nat → Nat → Int32} {L : Nat → Int64} {Q : Option Value → (Nat → Nat → Int32) → (Nat → Int64) → Prop}  (hb1 : vp_in (I 709 0) 8) (K : XS mX3_takeBack 143 [] [] (x_up I 66 0 (I 896 ((I 709 0).toNatClampNeg))) L Q) : XS mX3_takeBack 54 [(0, .ref 11)] [] I L Q := by
  refine x_aload_n 0 dX3_takeBack_54 rfl rfl ?_
  refine xs_getr dX3_takeBack_55 fl_X3_31 sh_11 rfl rf_704 ?_
  refine x_aload_n 0 dX3_takeBack_58 rfl rfl ?_
  refine xs_getr dX3_takeBack_59 fl_X3_18 sh_11 rfl rf_707 ?_
  refine x_aload_n 0 dX3_takeBack_62 rfl rfl ?_
  refine xs_geti 709 dX3_takeBack_63 fl_X3_24 sh_11 rfl rfl ?_
  refine xs_iald 896 ((I 709 0).toNatClampNeg) dX3_takeBack_66 sh_14 rfl rfl hb1 ?_
  refine xs_puti 66 dX3_takeBack_67 fl_X3_35 sh_1 rfl rfl rfl ?_
  exact x_goto 143 dX3_takeBack_70 (by decide) (x_sub [] rfl (K))
theorem bX3_takeBack_73 {I : Nat → Nat → Int32} {L : Nat → Int64} {Q : Option Value → (Nat → Nat → Int32) → (Nat → Int64) → Prop} {v1 : Int32} (hb1 : vp_in (I 709 0) 8) (K1 : (¬ (I 768 ((I 709 0).toNatClampNeg)) = (1 : Int32)) → XS mX3_takeBack 125 [(0, .ref 11), (1, .int v1)] [] I L Q) (K2 : ((I 768 ((I 709 0).toNatClampNeg)) = (1 : Int32)) → XS mX3_takeBack 86 [(0, .ref 11), (1, .int v1)] [] I L Q) : XS mX3_takeBack 73 [(0, .ref 11), (1, .int v1)] [] I L Q := by
  refine x_aload_n 0 dX3_takeBack_73 rfl rfl ?_
  refine xs_getr dX3_takeBack_74 fl_X3_9 sh_11 rfl rf_705 ?_
  refine x_aload_n 0 dX3_takeBack_77 rfl rfl ?_
  refine xs_geti 709 dX3_takeBack_78 fl_X3_24 sh_11 rfl rfl ?_
  refine xs_iald 768 ((I 709 0).toNatClampNeg) dX3_takeBack_81 sh_12 rfl rfl hb1 ?_
  refine x_iconst (v := (1 : Int32)) dX3_takeBack_82 (by decide) ?_
  exact x_icmp_ne 125 dX3_takeBack_83 (by decide) (fun h => K1 h) (fun h => K2 h)
theorem bX3_takeBack_86 {I : Nat → Nat → Int32} {L : Nat → Int64} {Q : Option Value → (Nat → Nat → Int32) → (Nat → Int64) → Prop} {v1 : Int32} (hb1 : vp_in (I 709 0) 8) (hb2 : vp_in v1 14) (hb3 : vp_in ((x_up I 256 (v1.toNatClampNeg) (I 896 ((I 709 0).toNatClampNeg))) 709 0) 8) (hb4 : vp_in v1 14) (K : XS mX3_takeBack 143 [] [] (x_up (x_up I 256 (v1.toNatClampNeg) (I 896 ((I 709 0).toNatClampNeg))) 320 (v1.toNatClampNeg) ((x_up I 256 (v1.toNatClampNeg) (I 896 ((I 709 0).toNatClampNeg))) 960 (((x_up I 256 (v1.toNatClampNeg) (I 896 ((I 709 0).toNatClampNeg))) 709 0).toNatClampNeg))) L Q) : XS mX3_takeBack 86 [(0, .ref 11), (1, .int v1)] [] I L Q := by
  refine x_aload_n 0 dX3_takeBack_86 rfl rfl ?_
  refine xs_getr dX3_takeBack_87 fl_X3_31 sh_11 rfl rf_704 ?_
  refine xs_getr dX3_takeBack_90 fl_X3_44 sh_1 rfl rf_69 ?_
  refine x_iload_n 1 dX3_takeBack_93 rfl rfl ?_
  refine x_aload_n 0 dX3_takeBack_94 rfl rfl ?_
  refine xs_getr dX3_takeBack_95 fl_X3_18 sh_11 rfl rf_707 ?_
  refine x_aload_n 0 dX3_takeBack_98 rfl rfl ?_
  refine xs_geti 709 dX3_takeBack_99 fl_X3_24 sh_11 rfl rfl ?_
  refine xs_iald 896 ((I 709 0).toNatClampNeg) dX3_takeBack_102 sh_14 rfl rfl hb1 ?_
  refine xs_iast 256 (v1.toNatClampNeg) dX3_takeBack_103 sh_4 rfl rfl hb2 ?_
  refine x_aload_n 0 dX3_takeBack_104 rfl rfl ?_
  refine xs_getr dX3_takeBack_105 fl_X3_31 sh_11 rfl rf_704 ?_
  refine xs_getr dX3_takeBack_108 fl_X3_47 sh_1 rfl rf_70 ?_
  refine x_iload_n 1 dX3_takeBack_111 rfl rfl ?_
  refine x_aload_n 0 dX3_takeBack_112 rfl rfl ?_
  refine xs_getr dX3_takeBack_113 fl_X3_21 sh_11 rfl rf_708 ?_
  refine x_aload_n 0 dX3_takeBack_116 rfl rfl ?_
  refine xs_geti 709 dX3_takeBack_117 fl_X3_24 sh_11 rfl rfl ?_
  refine xs_iald 960 (((x_up I 256 (v1.toNatClampNeg) (I 896 ((I 709 0).toNatClampNeg))) 709 0).toNatClampNeg) dX3_takeBack_120 sh_15 rfl rfl hb3 ?_
  refine xs_iast 320 (v1.toNatClampNeg) dX3_takeBack_121 sh_5 rfl rfl hb4 ?_
  exact x_goto 143 dX3_takeBack_122 (by decide) (x_sub [] rfl (K))
theorem bX3_takeBack_125 {I : Nat → Nat → Int32} {L : Nat → Int64} {Q : Option Value → (Nat → Nat → Int32) → (Nat → Int64) → Prop} {v1 : Int32} (hb1 : vp_in (I 709 0) 8) (hb2 : vp_in v1 8) (K : XS mX3_takeBack 143 [] [] (x_up I 448 (v1.toNatClampNeg) (I 896 ((I 709 0).toNatClampNeg))) L Q) : XS mX3_takeBack 125 [(0, .ref 11), (1, .int v1)] [] I L Q := by
  refine x_aload_n 0 dX3_takeBack_125 rfl rfl ?_
  refine xs_getr dX3_takeBack_126 fl_X3_31 sh_11 rfl rf_704 ?_
  refine xs_getr dX3_takeBack_129 fl_X3_50 sh_1 rfl rf_72 ?_
  refine x_iload_n 1 dX3_takeBack_132 rfl rfl ?_
  refine x_aload_n 0 dX3_takeBack_133 rfl rfl ?_
  refine xs_getr dX3_takeBack_134 fl_X3_18 sh_11 rfl rf_707 ?_
  refine x_aload_n 0 dX3_takeBack_137 rfl rfl ?_
  refine xs_geti 709 dX3_takeBack_138 fl_X3_24 sh_11 rfl rfl ?_
  refine xs_iald 896 ((I 709 0).toNatClampNeg) dX3_takeBack_141 sh_14 rfl rfl hb1 ?_
  refine xs_iast 448 (v1.toNatClampNeg) dX3_takeBack_142 sh_7 rfl rfl hb2 ?_
  exact x_sub [] rfl (K)
theorem bX3_takeBack_143 {I : Nat → Nat → Int32} {L : Nat → Int64} {Q : Option Value → (Nat → Nat → Int32) → (Nat → Int64) → Prop}   (K : Q none I L) : XS mX3_takeBack 143 [] [] I L Q := by
  exact xs_end dX3_takeBack_143 rfl K
theorem bX6_put_0 {I : Nat → Nat → Int32} {L : Nat → Int64} {Q : Option Value → (Nat → Nat → Int32) → (Nat → Int64) → Prop} {a0 : Nat} {v1 : Int32} {a0_0 : Nat} {n_a0_0 : Nat} (hs_a0 : x_SH[a0]? = some (0, 6)) (hr_a0_0 : x_RF (64 * a0 + 0) = some a0_0) (hs_a0_0 : x_SH[a0_0]? = some (1, n_a0_0)) (K1 : ((Int32.ofNat n_a0_0) ≤ (I (64 * a0 + 1) 0)) → XS mX6_put 32 [] [] I L Q) (K2 : (¬ (Int32.ofNat n_a0_0) ≤ (I (64 * a0 + 1) 0)) → XS mX6_put 12 [(0, .ref a0), (1, .int v1)] [] I L Q) : XS mX6_put 0 [(0, .ref a0), (1, .int v1)] [] I L Q := by
  refine x_aload_n 0 dX6_put_0 rfl rfl ?_
  refine xs_geti (64 * a0 + 1) dX6_put_1 fl_X6_9 hs_a0 rfl rfl ?_
  refine x_aload_n 0 dX6_put_4 rfl rfl ?_
  refine xs_getr dX6_put_5 fl_X6_21 hs_a0 rfl hr_a0_0 ?_
  refine x_alen (t := 0) (Int32.ofNat n_a0_0) dX6_put_8 hs_a0_0 rfl ?_
  exact x_icmp_ge 32 dX6_put_9 (by decide) (fun h => x_sub [] rfl (K1 h)) (fun h => K2 h)
theorem bX6_put_12 {I : Nat → Nat → Int32} {L : Nat → Int64} {Q : Option Value → (Nat → Nat → Int32) → (Nat → Int64) → Prop} {a0 : Nat} {v1 : Int32} {a0_0 : Nat} {n_a0_0 : Nat} (hs_a0 : x_SH[a0]? = some (0, 6)) (hr_a0_0 : x_RF (64 * a0 + 0) = some a0_0) (hs_a0_0 : x_SH[a0_0]? = some (1, n_a0_0)) (hb1 : vp_in (I (64 * a0 + 1) 0) n_a0_0) (K : XS mX6_put 32 [] [] (x_up (x_up I (64 * a0_0) ((I (64 * a0 + 1) 0).toNatClampNeg) v1) (64 * a0 + 1) 0 (((x_up I (64 * a0_0) ((I (64 * a0 + 1) 0).toNatClampNeg) v1) (64 * a0 + 1) 0) + (1 : Int32))) L Q) : XS mX6_put 12 [(0, .ref a0), (1, .int v1)] [] I L Q := by
  refine x_aload_n 0 dX6_put_12 rfl rfl ?_
  refine xs_getr dX6_put_13 fl_X6_21 hs_a0 rfl hr_a0_0 ?_
  refine x_aload_n 0 dX6_put_16 rfl rfl ?_
  refine xs_geti (64 * a0 + 1) dX6_put_17 fl_X6_9 hs_a0 rfl rfl ?_
  refine x_iload_n 1 dX6_put_20 rfl rfl ?_
  refine xs_iast (64 * a0_0) ((I (64 * a0 + 1) 0).toNatClampNeg) dX6_put_21 hs_a0_0 rfl rfl hb1 ?_
  refine x_aload_n 0 dX6_put_22 rfl rfl ?_
  refine x_dup dX6_put_23 rfl ?_
  refine xs_geti (64 * a0 + 1) dX6_put_24 fl_X6_9 hs_a0 rfl rfl ?_
  refine x_iconst (v := (1 : Int32)) dX6_put_27 (by decide) ?_
  refine x_iadd dX6_put_28 ?_
  refine xs_puti (64 * a0 + 1) dX6_put_29 fl_X6_9 hs_a0 rfl rfl rfl ?_
  exact x_sub [] rfl (K)
theorem bX6_put_32 {I : Nat → Nat → Int32} {L : Nat → Int64} {Q : Option Value → (Nat → Nat → Int32) → (Nat → Int64) → Prop}   (K : Q none I L) : XS mX6_put 32 [] [] I L Q := by
  exact xs_end dX6_put_32 rfl K
theorem bX6_last_0 {I : Nat → Nat → Int32} {L : Nat → Int64} {Q : Option Value → (Nat → Nat → Int32) → (Nat → Int64) → Prop} {a0 : Nat} (hs_a0 : x_SH[a0]? = some (0, 6)) (K1 : (¬ (I (64 * a0 + 1) 0) = 0) → XS mX6_last 11 [(0, .ref a0)] [] I L Q) (K2 : ((I (64 * a0 + 1) 0) = 0) → XS mX6_last 7 [] [] I L Q) : XS mX6_last 0 [(0, .ref a0)] [] I L Q := by
  refine x_aload_n 0 dX6_last_0 rfl rfl ?_
  refine xs_geti (64 * a0 + 1) dX6_last_1 fl_X6_9 hs_a0 rfl rfl ?_
  exact x_if_ne 11 dX6_last_4 (by decide) (fun h => K1 h) (fun h => x_sub [] rfl (K2 h))
theorem bX6_last_7 {I : Nat → Nat → Int32} {L : Nat → Int64} {Q : Option Value → (Nat → Nat → Int32) → (Nat → Int64) → Prop}   (K : XS mX6_last 22 [] [.int (-1 : Int32)] I L Q) : XS mX6_last 7 [] [] I L Q := by
  refine x_iconst (v := (-1 : Int32)) dX6_last_7 (by decide) ?_
  exact x_goto 22 dX6_last_8 (by decide) (K)
theorem bX6_last_11 {I : Nat → Nat → Int32} {L : Nat → Int64} {Q : Option Value → (Nat → Nat → Int32) → (Nat → Int64) → Prop} {a0 : Nat} {a0_0 : Nat} {n_a0_0 : Nat} (hs_a0 : x_SH[a0]? = some (0, 6)) (hr_a0_0 : x_RF (64 * a0 + 0) = some a0_0) (hs_a0_0 : x_SH[a0_0]? = some (1, n_a0_0)) (hb1 : vp_in ((I (64 * a0 + 1) 0) - (1 : Int32)) n_a0_0) (K : XS mX6_last 22 [] [.int (I (64 * a0_0) (((I (64 * a0 + 1) 0) - (1 : Int32)).toNatClampNeg))] I L Q) : XS mX6_last 11 [(0, .ref a0)] [] I L Q := by
  refine x_aload_n 0 dX6_last_11 rfl rfl ?_
  refine xs_getr dX6_last_12 fl_X6_21 hs_a0 rfl hr_a0_0 ?_
  refine x_aload_n 0 dX6_last_15 rfl rfl ?_
  refine xs_geti (64 * a0 + 1) dX6_last_16 fl_X6_9 hs_a0 rfl rfl ?_
  refine x_iconst (v := (1 : Int32)) dX6_last_19 (by decide) ?_
  refine x_isub dX6_last_20 ?_
  refine xs_iald (64 * a0_0) (((I (64 * a0 + 1) 0) - (1 : Int32)).toNatClampNeg) dX6_last_21 hs_a0_0 rfl rfl hb1 ?_
  exact x_sub [] rfl (K)
theorem bX6_last_22 {I : Nat → Nat → Int32} {L : Nat → Int64} {Q : Option Value → (Nat → Nat → Int32) → (Nat → Int64) → Prop} {s0 : Int32}  (K : Q (some (.int s0)) I L) : XS mX6_last 22 [] [.int s0] I L Q := by
  exact xs_iret dX6_last_22 rfl rfl K
theorem bX6_has_0 {I : Nat → Nat → Int32} {L : Nat → Int64} {Q : Option Value → (Nat → Nat → Int32) → (Nat → Int64) → Prop} {a0 : Nat} {v1 : Int32}  (K : XS mX6_has 2 [(0, .ref a0), (1, .int v1), (2, .int (0 : Int32))] [] I L Q) : XS mX6_has 0 [(0, .ref a0), (1, .int v1)] [] I L Q := by
  refine x_iconst (v := (0 : Int32)) dX6_has_0 (by decide) ?_
  refine x_istore_n [(0, .ref a0), (1, .int v1), (2, .int (0 : Int32))] dX6_has_1 rfl (Nat.le_of_ble_eq_true rfl) rfl ?_
  exact K
theorem bX6_has_2 {I : Nat → Nat → Int32} {L : Nat → Int64} {Q : Option Value → (Nat → Nat → Int32) → (Nat → Int64) → Prop} {a0 : Nat} {v1 : Int32} {v2 : Int32} (hs_a0 : x_SH[a0]? = some (0, 6)) (K1 : ((I (64 * a0 + 1) 0) ≤ v2) → XS mX6_has 28 [] [] I L Q) (K2 : (¬ (I (64 * a0 + 1) 0) ≤ v2) → XS mX6_has 10 [(0, .ref a0), (1, .int v1), (2, .int v2)] [] I L Q) : XS mX6_has 2 [(0, .ref a0), (1, .int v1), (2, .int v2)] [] I L Q := by
  refine x_iload_n 2 dX6_has_2 rfl rfl ?_
  refine x_aload_n 0 dX6_has_3 rfl rfl ?_
  refine xs_geti (64 * a0 + 1) dX6_has_4 fl_X6_9 hs_a0 rfl rfl ?_
  exact x_icmp_ge 28 dX6_has_7 (by decide) (fun h => x_sub [] rfl (K1 h)) (fun h => K2 h)
theorem bX6_has_10 {I : Nat → Nat → Int32} {L : Nat → Int64} {Q : Option Value → (Nat → Nat → Int32) → (Nat → Int64) → Prop} {a0 : Nat} {v1 : Int32} {v2 : Int32} {a0_0 : Nat} {n_a0_0 : Nat} (hs_a0 : x_SH[a0]? = some (0, 6)) (hr_a0_0 : x_RF (64 * a0 + 0) = some a0_0) (hs_a0_0 : x_SH[a0_0]? = some (1, n_a0_0)) (hb1 : vp_in v2 n_a0_0) (K1 : (¬ (I (64 * a0_0) (v2.toNatClampNeg)) = v1) → XS mX6_has 22 [(0, .ref a0), (1, .int v1), (2, .int v2)] [] I L Q) (K2 : ((I (64 * a0_0) (v2.toNatClampNeg)) = v1) → XS mX6_has 20 [] [] I L Q) : XS mX6_has 10 [(0, .ref a0), (1, .int v1), (2, .int v2)] [] I L Q := by
  refine x_aload_n 0 dX6_has_10 rfl rfl ?_
  refine xs_getr dX6_has_11 fl_X6_21 hs_a0 rfl hr_a0_0 ?_
  refine x_iload_n 2 dX6_has_14 rfl rfl ?_
  refine xs_iald (64 * a0_0) (v2.toNatClampNeg) dX6_has_15 hs_a0_0 rfl rfl hb1 ?_
  refine x_iload_n 1 dX6_has_16 rfl rfl ?_
  exact x_icmp_ne 22 dX6_has_17 (by decide) (fun h => K1 h) (fun h => x_sub [] rfl (K2 h))
theorem bX6_has_20 {I : Nat → Nat → Int32} {L : Nat → Int64} {Q : Option Value → (Nat → Nat → Int32) → (Nat → Int64) → Prop}   (K : Q (some (.int (1 : Int32))) I L) : XS mX6_has 20 [] [] I L Q := by
  refine x_iconst (v := (1 : Int32)) dX6_has_20 (by decide) ?_
  exact xs_iret dX6_has_21 rfl (x_nar _ (Or.inr rfl)) K
theorem bX6_has_22 {I : Nat → Nat → Int32} {L : Nat → Int64} {Q : Option Value → (Nat → Nat → Int32) → (Nat → Int64) → Prop} {a0 : Nat} {v1 : Int32} {v2 : Int32}  (K : XS mX6_has 2 [(0, .ref a0), (1, .int v1), (2, .int (v2 + (1 : Int32)))] [] I L Q) : XS mX6_has 22 [(0, .ref a0), (1, .int v1), (2, .int v2)] [] I L Q := by
  refine x_iinc 2 (v2 + (1 : Int32)) [(0, .ref a0), (1, .int v1), (2, .int (v2 + (1 : Int32)))] dX6_has_22 rfl rfl (Nat.le_of_ble_eq_true rfl) rfl ?_
  exact x_goto 2 dX6_has_25 (by decide) (K)
theorem bX6_has_28 {I : Nat → Nat → Int32} {L : Nat → Int64} {Q : Option Value → (Nat → Nat → Int32) → (Nat → Int64) → Prop}   (K : Q (some (.int (0 : Int32))) I L) : XS mX6_has 28 [] [] I L Q := by
  refine x_iconst (v := (0 : Int32)) dX6_has_28 (by decide) ?_
  exact xs_iret dX6_has_29 rfl (x_nar _ (Or.inl rfl)) K
theorem bX6_takeOver_0 {I : Nat → Nat → Int32} {L : Nat → Int64} {Q : Option Value → (Nat → Nat → Int32) → (Nat → Int64) → Prop} {a0 : Nat} {a1 : Nat} (hs_a0 : x_SH[a0]? = some (0, 6)) (K : XS mX6_takeOver 7 [(0, .ref a0), (1, .ref a1), (2, .int (0 : Int32))] [] (x_up I (64 * a0 + 1) 0 (0 : Int32)) L Q) : XS mX6_takeOver 0 [(0, .ref a0), (1, .ref a1)] [] I L Q := by
  refine x_aload_n 0 dX6_takeOver_0 rfl rfl ?_
  refine x_iconst (v := (0 : Int32)) dX6_takeOver_1 (by decide) ?_
  refine xs_puti (64 * a0 + 1) dX6_takeOver_2 fl_X6_9 hs_a0 rfl rfl rfl ?_
  refine x_iconst (v := (0 : Int32)) dX6_takeOver_5 (by decide) ?_
  refine x_istore_n [(0, .ref a0), (1, .ref a1), (2, .int (0 : Int32))] dX6_takeOver_6 rfl (Nat.le_of_ble_eq_true rfl) rfl ?_
  exact K
theorem bX6_takeOver_7 {I : Nat → Nat → Int32} {L : Nat → Int64} {Q : Option Value → (Nat → Nat → Int32) → (Nat → Int64) → Prop} {a0 : Nat} {a1 : Nat} {v2 : Int32} (hs_a1 : x_SH[a1]? = some (0, 6)) (K1 : ((I (64 * a1 + 1) 0) ≤ v2) → XS mX6_takeOver 31 [] [] I L Q) (K2 : (¬ (I (64 * a1 + 1) 0) ≤ v2) → XS mX6_takeOver 15 [(0, .ref a0), (1, .ref a1), (2, .int v2)] [] I L Q) : XS mX6_takeOver 7 [(0, .ref a0), (1, .ref a1), (2, .int v2)] [] I L Q := by
  refine x_iload_n 2 dX6_takeOver_7 rfl rfl ?_
  refine x_aload_n 1 dX6_takeOver_8 rfl rfl ?_
  refine xs_geti (64 * a1 + 1) dX6_takeOver_9 fl_X6_9 hs_a1 rfl rfl ?_
  exact x_icmp_ge 31 dX6_takeOver_12 (by decide) (fun h => x_sub [] rfl (K1 h)) (fun h => K2 h)
theorem bX6_takeOver_15 {I : Nat → Nat → Int32} {L : Nat → Int64} {Q : Option Value → (Nat → Nat → Int32) → (Nat → Int64) → Prop} {a0 : Nat} {a1 : Nat} {v2 : Int32} {a1_0 : Nat} {n_a1_0 : Nat} (hs_a1 : x_SH[a1]? = some (0, 6)) (hr_a1_0 : x_RF (64 * a1 + 0) = some a1_0) (hs_a1_0 : x_SH[a1_0]? = some (1, n_a1_0)) (hb1 : vp_in v2 n_a1_0) (hs_a0 : x_SH[a0]? = some (0, 6)) (K : XS mX6_put 0 [(0, .ref a0), (1, .int (I (64 * a1_0) (v2.toNatClampNeg)))] [] I L (fun r I' L' => XS mX6_takeOver 25 [(0, .ref a0), (1, .ref a1), (2, .int v2)] (r.toList ++ []) I' L' Q)) : XS mX6_takeOver 15 [(0, .ref a0), (1, .ref a1), (2, .int v2)] [] I L Q := by
  refine x_aload_n 0 dX6_takeOver_15 rfl rfl ?_
  refine x_aload_n 1 dX6_takeOver_16 rfl rfl ?_
  refine xs_getr dX6_takeOver_17 fl_X6_21 hs_a1 rfl hr_a1_0 ?_
  refine x_iload_n 2 dX6_takeOver_20 rfl rfl ?_
  refine xs_iald (64 * a1_0) (v2.toNatClampNeg) dX6_takeOver_21 hs_a1_0 rfl rfl hb1 ?_
  exact xs_callV mX6_put [.int (I (64 * a1_0) (v2.toNatClampNeg))] [] a0 6 1 _ rfl dX6_takeOver_22 ml_X6_25 qX6_put rfl ⟨Nat.le_of_ble_eq_true rfl, Nat.le_of_ble_eq_true rfl⟩ ⟨rfl, rfl⟩ (Nat.le_of_ble_eq_true rfl) hs_a0 (by decide) rfl (Nat.le_of_ble_eq_true rfl) (K)
theorem bX6_takeOver_25 {I : Nat → Nat → Int32} {L : Nat → Int64} {Q : Option Value → (Nat → Nat → Int32) → (Nat → Int64) → Prop} {a0 : Nat} {a1 : Nat} {v2 : Int32}  (K : XS mX6_takeOver 7 [(0, .ref a0), (1, .ref a1), (2, .int (v2 + (1 : Int32)))] [] I L Q) : XS mX6_takeOver 25 [(0, .ref a0), (1, .ref a1), (2, .int v2)] [] I L Q := by
  refine x_iinc 2 (v2 + (1 : Int32)) [(0, .ref a0), (1, .ref a1), (2, .int (v2 + (1 : Int32)))] dX6_takeOver_25 rfl rfl (Nat.le_of_ble_eq_true rfl) rfl ?_
  exact x_goto 7 dX6_takeOver_28 (by decide) (K)
theorem bX6_takeOver_31 {I : Nat → Nat → Int32} {L : Nat → Int64} {Q : Option Value → (Nat → Nat → Int32) → (Nat → Int64) → Prop}   (K : Q none I L) : XS mX6_takeOver 31 [] [] I L Q := by
  exact xs_end dX6_takeOver_31 rfl K
theorem bX6_told_0 {I : Nat → Nat → Int32} {L : Nat → Int64} {Q : Option Value → (Nat → Nat → Int32) → (Nat → Int64) → Prop} {a0 : Nat} {v1 : Int32}  (K1 : (¬ v1 = (-1 : Int32)) → XS mX6_told 10 [(0, .ref a0), (1, .int v1)] [] I L Q) (K2 : (v1 = (-1 : Int32)) → XS mX6_told 5 [(0, .ref a0)] [] I L Q) : XS mX6_told 0 [(0, .ref a0), (1, .int v1)] [] I L Q := by
  refine x_iload_n 1 dX6_told_0 rfl rfl ?_
  refine x_iconst (v := (-1 : Int32)) dX6_told_1 (by decide) ?_
  exact x_icmp_ne 10 dX6_told_2 (by decide) (fun h => K1 h) (fun h => x_sub [0] rfl (K2 h))
theorem bX6_told_5 {I : Nat → Nat → Int32} {L : Nat → Int64} {Q : Option Value → (Nat → Nat → Int32) → (Nat → Int64) → Prop} {a0 : Nat} (hs_a0 : x_SH[a0]? = some (0, 6)) (K : Q (some (.int (I (64 * a0 + 1) 0))) I L) : XS mX6_told 5 [(0, .ref a0)] [] I L Q := by
  refine x_aload_n 0 dX6_told_5 rfl rfl ?_
  refine xs_geti (64 * a0 + 1) dX6_told_6 fl_X6_9 hs_a0 rfl rfl ?_
  exact xs_iret dX6_told_9 rfl rfl K
theorem bX6_told_10 {I : Nat → Nat → Int32} {L : Nat → Int64} {Q : Option Value → (Nat → Nat → Int32) → (Nat → Int64) → Prop} {a0 : Nat} {v1 : Int32}  (K1 : (v1 < 0) → XS mX6_told 31 [] [] I L Q) (K2 : (¬ v1 < 0) → XS mX6_told 14 [(0, .ref a0), (1, .int v1)] [] I L Q) : XS mX6_told 10 [(0, .ref a0), (1, .int v1)] [] I L Q := by
  refine x_iload_n 1 dX6_told_10 rfl rfl ?_
  exact x_if_lt 31 dX6_told_11 (by decide) (fun h => x_sub [] rfl (K1 h)) (fun h => K2 h)
theorem bX6_told_14 {I : Nat → Nat → Int32} {L : Nat → Int64} {Q : Option Value → (Nat → Nat → Int32) → (Nat → Int64) → Prop} {a0 : Nat} {v1 : Int32} (hs_a0 : x_SH[a0]? = some (0, 6)) (K1 : ((I (64 * a0 + 1) 0) ≤ v1) → XS mX6_told 31 [] [] I L Q) (K2 : (¬ (I (64 * a0 + 1) 0) ≤ v1) → XS mX6_told 22 [(0, .ref a0), (1, .int v1)] [] I L Q) : XS mX6_told 14 [(0, .ref a0), (1, .int v1)] [] I L Q := by
  refine x_iload_n 1 dX6_told_14 rfl rfl ?_
  refine x_aload_n 0 dX6_told_15 rfl rfl ?_
  refine xs_geti (64 * a0 + 1) dX6_told_16 fl_X6_9 hs_a0 rfl rfl ?_
  exact x_icmp_ge 31 dX6_told_19 (by decide) (fun h => x_sub [] rfl (K1 h)) (fun h => K2 h)
theorem bX6_told_22 {I : Nat → Nat → Int32} {L : Nat → Int64} {Q : Option Value → (Nat → Nat → Int32) → (Nat → Int64) → Prop} {a0 : Nat} {v1 : Int32} {a0_0 : Nat} {n_a0_0 : Nat} (hs_a0 : x_SH[a0]? = some (0, 6)) (hr_a0_0 : x_RF (64 * a0 + 0) = some a0_0) (hs_a0_0 : x_SH[a0_0]? = some (1, n_a0_0)) (hb1 : vp_in v1 n_a0_0) (K : XS mX6_told 32 [] [.int (I (64 * a0_0) (v1.toNatClampNeg))] I L Q) : XS mX6_told 22 [(0, .ref a0), (1, .int v1)] [] I L Q := by
  refine x_aload_n 0 dX6_told_22 rfl rfl ?_
  refine xs_getr dX6_told_23 fl_X6_21 hs_a0 rfl hr_a0_0 ?_
  refine x_iload_n 1 dX6_told_26 rfl rfl ?_
  refine xs_iald (64 * a0_0) (v1.toNatClampNeg) dX6_told_27 hs_a0_0 rfl rfl hb1 ?_
  exact x_goto 32 dX6_told_28 (by decide) (x_sub [] rfl (K))
theorem bX6_told_31 {I : Nat → Nat → Int32} {L : Nat → Int64} {Q : Option Value → (Nat → Nat → Int32) → (Nat → Int64) → Prop}   (K : XS mX6_told 32 [] [.int (-1 : Int32)] I L Q) : XS mX6_told 31 [] [] I L Q := by
  refine x_iconst (v := (-1 : Int32)) dX6_told_31 (by decide) ?_
  exact K
theorem bX6_told_32 {I : Nat → Nat → Int32} {L : Nat → Int64} {Q : Option Value → (Nat → Nat → Int32) → (Nat → Int64) → Prop} {s0 : Int32}  (K : Q (some (.int s0)) I L) : XS mX6_told 32 [] [.int s0] I L Q := by
  exact xs_iret dX6_told_32 rfl rfl K
theorem bX7_put_0 {I : Nat → Nat → Int32} {L : Nat → Int64} {Q : Option Value → (Nat → Nat → Int32) → (Nat → Int64) → Prop} {a0 : Nat} {v1 : Int32} {v2 : Int32} {a0_0 : Nat} {n_a0_0 : Nat} (hs_a0 : x_SH[a0]? = some (0, 7)) (hr_a0_0 : x_RF (64 * a0 + 0) = some a0_0) (hs_a0_0 : x_SH[a0_0]? = some (1, n_a0_0)) (K1 : ((Int32.ofNat n_a0_0) ≤ (I (64 * a0 + 2) 0)) → XS mX7_put 42 [] [] I L Q) (K2 : (¬ (Int32.ofNat n_a0_0) ≤ (I (64 * a0 + 2) 0)) → XS mX7_put 12 [(0, .ref a0), (1, .int v1), (2, .int v2)] [] I L Q) : XS mX7_put 0 [(0, .ref a0), (1, .int v1), (2, .int v2)] [] I L Q := by
  refine x_aload_n 0 dX7_put_0 rfl rfl ?_
  refine xs_geti (64 * a0 + 2) dX7_put_1 fl_X7_9 hs_a0 rfl rfl ?_
  refine x_aload_n 0 dX7_put_4 rfl rfl ?_
  refine xs_getr dX7_put_5 fl_X7_21 hs_a0 rfl hr_a0_0 ?_
  refine x_alen (t := 0) (Int32.ofNat n_a0_0) dX7_put_8 hs_a0_0 rfl ?_
  exact x_icmp_ge 42 dX7_put_9 (by decide) (fun h => x_sub [] rfl (K1 h)) (fun h => K2 h)
theorem bX7_put_12 {I : Nat → Nat → Int32} {L : Nat → Int64} {Q : Option Value → (Nat → Nat → Int32) → (Nat → Int64) → Prop} {a0 : Nat} {v1 : Int32} {v2 : Int32} {a0_0 : Nat} {n_a0_0 : Nat} {a0_1 : Nat} {n_a0_1 : Nat} (hs_a0 : x_SH[a0]? = some (0, 7)) (hr_a0_0 : x_RF (64 * a0 + 0) = some a0_0) (hs_a0_0 : x_SH[a0_0]? = some (1, n_a0_0)) (hb1 : vp_in (I (64 * a0 + 2) 0) n_a0_0) (hr_a0_1 : x_RF (64 * a0 + 1) = some a0_1) (hs_a0_1 : x_SH[a0_1]? = some (1, n_a0_1)) (hb2 : vp_in ((x_up I (64 * a0_0) ((I (64 * a0 + 2) 0).toNatClampNeg) v1) (64 * a0 + 2) 0) n_a0_1) (K : XS mX7_put 42 [] [] (x_up (x_up (x_up I (64 * a0_0) ((I (64 * a0 + 2) 0).toNatClampNeg) v1) (64 * a0_1) (((x_up I (64 * a0_0) ((I (64 * a0 + 2) 0).toNatClampNeg) v1) (64 * a0 + 2) 0).toNatClampNeg) v2) (64 * a0 + 2) 0 (((x_up (x_up I (64 * a0_0) ((I (64 * a0 + 2) 0).toNatClampNeg) v1) (64 * a0_1) (((x_up I (64 * a0_0) ((I (64 * a0 + 2) 0).toNatClampNeg) v1) (64 * a0 + 2) 0).toNatClampNeg) v2) (64 * a0 + 2) 0) + (1 : Int32))) L Q) : XS mX7_put 12 [(0, .ref a0), (1, .int v1), (2, .int v2)] [] I L Q := by
  refine x_aload_n 0 dX7_put_12 rfl rfl ?_
  refine xs_getr dX7_put_13 fl_X7_21 hs_a0 rfl hr_a0_0 ?_
  refine x_aload_n 0 dX7_put_16 rfl rfl ?_
  refine xs_geti (64 * a0 + 2) dX7_put_17 fl_X7_9 hs_a0 rfl rfl ?_
  refine x_iload_n 1 dX7_put_20 rfl rfl ?_
  refine xs_iast (64 * a0_0) ((I (64 * a0 + 2) 0).toNatClampNeg) dX7_put_21 hs_a0_0 rfl rfl hb1 ?_
  refine x_aload_n 0 dX7_put_22 rfl rfl ?_
  refine xs_getr dX7_put_23 fl_X7_25 hs_a0 rfl hr_a0_1 ?_
  refine x_aload_n 0 dX7_put_26 rfl rfl ?_
  refine xs_geti (64 * a0 + 2) dX7_put_27 fl_X7_9 hs_a0 rfl rfl ?_
  refine x_iload_n 2 dX7_put_30 rfl rfl ?_
  refine xs_iast (64 * a0_1) (((x_up I (64 * a0_0) ((I (64 * a0 + 2) 0).toNatClampNeg) v1) (64 * a0 + 2) 0).toNatClampNeg) dX7_put_31 hs_a0_1 rfl rfl hb2 ?_
  refine x_aload_n 0 dX7_put_32 rfl rfl ?_
  refine x_dup dX7_put_33 rfl ?_
  refine xs_geti (64 * a0 + 2) dX7_put_34 fl_X7_9 hs_a0 rfl rfl ?_
  refine x_iconst (v := (1 : Int32)) dX7_put_37 (by decide) ?_
  refine x_iadd dX7_put_38 ?_
  refine xs_puti (64 * a0 + 2) dX7_put_39 fl_X7_9 hs_a0 rfl rfl rfl ?_
  exact x_sub [] rfl (K)
theorem bX7_put_42 {I : Nat → Nat → Int32} {L : Nat → Int64} {Q : Option Value → (Nat → Nat → Int32) → (Nat → Int64) → Prop}   (K : Q none I L) : XS mX7_put 42 [] [] I L Q := by
  exact xs_end dX7_put_42 rfl K
theorem bX7_putOnTop_0 {I : Nat → Nat → Int32} {L : Nat → Int64} {Q : Option Value → (Nat → Nat → Int32) → (Nat → Int64) → Prop} {a0 : Nat} {a1 : Nat} (hs_a1 : x_SH[a1]? = some (0, 7)) (K : XS mX7_putOnTop 7 [(0, .ref a0), (1, .ref a1), (2, .int ((I (64 * a1 + 2) 0) - (1 : Int32)))] [] I L Q) : XS mX7_putOnTop 0 [(0, .ref a0), (1, .ref a1)] [] I L Q := by
  refine x_aload_n 1 dX7_putOnTop_0 rfl rfl ?_
  refine xs_geti (64 * a1 + 2) dX7_putOnTop_1 fl_X7_9 hs_a1 rfl rfl ?_
  refine x_iconst (v := (1 : Int32)) dX7_putOnTop_4 (by decide) ?_
  refine x_isub dX7_putOnTop_5 ?_
  refine x_istore_n [(0, .ref a0), (1, .ref a1), (2, .int ((I (64 * a1 + 2) 0) - (1 : Int32)))] dX7_putOnTop_6 rfl (Nat.le_of_ble_eq_true rfl) rfl ?_
  exact K
theorem bX7_putOnTop_7 {I : Nat → Nat → Int32} {L : Nat → Int64} {Q : Option Value → (Nat → Nat → Int32) → (Nat → Int64) → Prop} {a0 : Nat} {a1 : Nat} {v2 : Int32}  (K1 : (v2 < 0) → XS mX7_putOnTop 33 [] [] I L Q) (K2 : (¬ v2 < 0) → XS mX7_putOnTop 11 [(0, .ref a0), (1, .ref a1), (2, .int v2)] [] I L Q) : XS mX7_putOnTop 7 [(0, .ref a0), (1, .ref a1), (2, .int v2)] [] I L Q := by
  refine x_iload_n 2 dX7_putOnTop_7 rfl rfl ?_
  exact x_if_lt 33 dX7_putOnTop_8 (by decide) (fun h => x_sub [] rfl (K1 h)) (fun h => K2 h)
theorem bX7_putOnTop_11 {I : Nat → Nat → Int32} {L : Nat → Int64} {Q : Option Value → (Nat → Nat → Int32) → (Nat → Int64) → Prop} {a0 : Nat} {a1 : Nat} {v2 : Int32} {a1_0 : Nat} {n_a1_0 : Nat} {a1_1 : Nat} {n_a1_1 : Nat} (hs_a1 : x_SH[a1]? = some (0, 7)) (hr_a1_0 : x_RF (64 * a1 + 0) = some a1_0) (hs_a1_0 : x_SH[a1_0]? = some (1, n_a1_0)) (hb1 : vp_in v2 n_a1_0) (hr_a1_1 : x_RF (64 * a1 + 1) = some a1_1) (hs_a1_1 : x_SH[a1_1]? = some (1, n_a1_1)) (hb2 : vp_in v2 n_a1_1) (hs_a0 : x_SH[a0]? = some (0, 7)) (K : XS mX7_put 0 [(0, .ref a0), (1, .int (I (64 * a1_0) (v2.toNatClampNeg))), (2, .int (I (64 * a1_1) (v2.toNatClampNeg)))] [] I L (fun r I' L' => XS mX7_putOnTop 27 [(0, .ref a0), (1, .ref a1), (2, .int v2)] (r.toList ++ []) I' L' Q)) : XS mX7_putOnTop 11 [(0, .ref a0), (1, .ref a1), (2, .int v2)] [] I L Q := by
  refine x_aload_n 0 dX7_putOnTop_11 rfl rfl ?_
  refine x_aload_n 1 dX7_putOnTop_12 rfl rfl ?_
  refine xs_getr dX7_putOnTop_13 fl_X7_21 hs_a1 rfl hr_a1_0 ?_
  refine x_iload_n 2 dX7_putOnTop_16 rfl rfl ?_
  refine xs_iald (64 * a1_0) (v2.toNatClampNeg) dX7_putOnTop_17 hs_a1_0 rfl rfl hb1 ?_
  refine x_aload_n 1 dX7_putOnTop_18 rfl rfl ?_
  refine xs_getr dX7_putOnTop_19 fl_X7_25 hs_a1 rfl hr_a1_1 ?_
  refine x_iload_n 2 dX7_putOnTop_22 rfl rfl ?_
  refine xs_iald (64 * a1_1) (v2.toNatClampNeg) dX7_putOnTop_23 hs_a1_1 rfl rfl hb2 ?_
  exact xs_callV mX7_put [.int (I (64 * a1_0) (v2.toNatClampNeg)), .int (I (64 * a1_1) (v2.toNatClampNeg))] [] a0 7 2 _ rfl dX7_putOnTop_24 ml_X7_28 qX7_put rfl ⟨Nat.le_of_ble_eq_true rfl, Nat.le_of_ble_eq_true rfl⟩ ⟨rfl, rfl⟩ (Nat.le_of_ble_eq_true rfl) hs_a0 (by decide) rfl (Nat.le_of_ble_eq_true rfl) (K)
theorem bX7_putOnTop_27 {I : Nat → Nat → Int32} {L : Nat → Int64} {Q : Option Value → (Nat → Nat → Int32) → (Nat → Int64) → Prop} {a0 : Nat} {a1 : Nat} {v2 : Int32}  (K : XS mX7_putOnTop 7 [(0, .ref a0), (1, .ref a1), (2, .int (v2 + (-1 : Int32)))] [] I L Q) : XS mX7_putOnTop 27 [(0, .ref a0), (1, .ref a1), (2, .int v2)] [] I L Q := by
  refine x_iinc 2 (v2 + (-1 : Int32)) [(0, .ref a0), (1, .ref a1), (2, .int (v2 + (-1 : Int32)))] dX7_putOnTop_27 rfl rfl (Nat.le_of_ble_eq_true rfl) rfl ?_
  exact x_goto 7 dX7_putOnTop_30 (by decide) (K)
theorem bX7_putOnTop_33 {I : Nat → Nat → Int32} {L : Nat → Int64} {Q : Option Value → (Nat → Nat → Int32) → (Nat → Int64) → Prop}   (K : Q none I L) : XS mX7_putOnTop 33 [] [] I L Q := by
  exact xs_end dX7_putOnTop_33 rfl K
theorem bX7_topKind_0 {I : Nat → Nat → Int32} {L : Nat → Int64} {Q : Option Value → (Nat → Nat → Int32) → (Nat → Int64) → Prop} {a0 : Nat} (hs_a0 : x_SH[a0]? = some (0, 7)) (K1 : (¬ (I (64 * a0 + 2) 0) = 0) → XS mX7_topKind 11 [(0, .ref a0)] [] I L Q) (K2 : ((I (64 * a0 + 2) 0) = 0) → XS mX7_topKind 7 [] [] I L Q) : XS mX7_topKind 0 [(0, .ref a0)] [] I L Q := by
  refine x_aload_n 0 dX7_topKind_0 rfl rfl ?_
  refine xs_geti (64 * a0 + 2) dX7_topKind_1 fl_X7_9 hs_a0 rfl rfl ?_
  exact x_if_ne 11 dX7_topKind_4 (by decide) (fun h => K1 h) (fun h => x_sub [] rfl (K2 h))
theorem bX7_topKind_7 {I : Nat → Nat → Int32} {L : Nat → Int64} {Q : Option Value → (Nat → Nat → Int32) → (Nat → Int64) → Prop}   (K : XS mX7_topKind 22 [] [.int (-1 : Int32)] I L Q) : XS mX7_topKind 7 [] [] I L Q := by
  refine x_iconst (v := (-1 : Int32)) dX7_topKind_7 (by decide) ?_
  exact x_goto 22 dX7_topKind_8 (by decide) (K)
theorem bX7_topKind_11 {I : Nat → Nat → Int32} {L : Nat → Int64} {Q : Option Value → (Nat → Nat → Int32) → (Nat → Int64) → Prop} {a0 : Nat} {a0_0 : Nat} {n_a0_0 : Nat} (hs_a0 : x_SH[a0]? = some (0, 7)) (hr_a0_0 : x_RF (64 * a0 + 0) = some a0_0) (hs_a0_0 : x_SH[a0_0]? = some (1, n_a0_0)) (hb1 : vp_in ((I (64 * a0 + 2) 0) - (1 : Int32)) n_a0_0) (K : XS mX7_topKind 22 [] [.int (I (64 * a0_0) (((I (64 * a0 + 2) 0) - (1 : Int32)).toNatClampNeg))] I L Q) : XS mX7_topKind 11 [(0, .ref a0)] [] I L Q := by
  refine x_aload_n 0 dX7_topKind_11 rfl rfl ?_
  refine xs_getr dX7_topKind_12 fl_X7_21 hs_a0 rfl hr_a0_0 ?_
  refine x_aload_n 0 dX7_topKind_15 rfl rfl ?_
  refine xs_geti (64 * a0 + 2) dX7_topKind_16 fl_X7_9 hs_a0 rfl rfl ?_
  refine x_iconst (v := (1 : Int32)) dX7_topKind_19 (by decide) ?_
  refine x_isub dX7_topKind_20 ?_
  refine xs_iald (64 * a0_0) (((I (64 * a0 + 2) 0) - (1 : Int32)).toNatClampNeg) dX7_topKind_21 hs_a0_0 rfl rfl hb1 ?_
  exact x_sub [] rfl (K)
theorem bX7_topKind_22 {I : Nat → Nat → Int32} {L : Nat → Int64} {Q : Option Value → (Nat → Nat → Int32) → (Nat → Int64) → Prop} {s0 : Int32}  (K : Q (some (.int s0)) I L) : XS mX7_topKind 22 [] [.int s0] I L Q := by
  exact xs_iret dX7_topKind_22 rfl rfl K
theorem bX7_topWhat_0 {I : Nat → Nat → Int32} {L : Nat → Int64} {Q : Option Value → (Nat → Nat → Int32) → (Nat → Int64) → Prop} {a0 : Nat} (hs_a0 : x_SH[a0]? = some (0, 7)) (K1 : (¬ (I (64 * a0 + 2) 0) = 0) → XS mX7_topWhat 11 [(0, .ref a0)] [] I L Q) (K2 : ((I (64 * a0 + 2) 0) = 0) → XS mX7_topWhat 7 [] [] I L Q) : XS mX7_topWhat 0 [(0, .ref a0)] [] I L Q := by
  refine x_aload_n 0 dX7_topWhat_0 rfl rfl ?_
  refine xs_geti (64 * a0 + 2) dX7_topWhat_1 fl_X7_9 hs_a0 rfl rfl ?_
  exact x_if_ne 11 dX7_topWhat_4 (by decide) (fun h => K1 h) (fun h => x_sub [] rfl (K2 h))
theorem bX7_topWhat_7 {I : Nat → Nat → Int32} {L : Nat → Int64} {Q : Option Value → (Nat → Nat → Int32) → (Nat → Int64) → Prop}   (K : XS mX7_topWhat 22 [] [.int (-1 : Int32)] I L Q) : XS mX7_topWhat 7 [] [] I L Q := by
  refine x_iconst (v := (-1 : Int32)) dX7_topWhat_7 (by decide) ?_
  exact x_goto 22 dX7_topWhat_8 (by decide) (K)
theorem bX7_topWhat_11 {I : Nat → Nat → Int32} {L : Nat → Int64} {Q : Option Value → (Nat → Nat → Int32) → (Nat → Int64) → Prop} {a0 : Nat} {a0_1 : Nat} {n_a0_1 : Nat} (hs_a0 : x_SH[a0]? = some (0, 7)) (hr_a0_1 : x_RF (64 * a0 + 1) = some a0_1) (hs_a0_1 : x_SH[a0_1]? = some (1, n_a0_1)) (hb1 : vp_in ((I (64 * a0 + 2) 0) - (1 : Int32)) n_a0_1) (K : XS mX7_topWhat 22 [] [.int (I (64 * a0_1) (((I (64 * a0 + 2) 0) - (1 : Int32)).toNatClampNeg))] I L Q) : XS mX7_topWhat 11 [(0, .ref a0)] [] I L Q := by
  refine x_aload_n 0 dX7_topWhat_11 rfl rfl ?_
  refine xs_getr dX7_topWhat_12 fl_X7_25 hs_a0 rfl hr_a0_1 ?_
  refine x_aload_n 0 dX7_topWhat_15 rfl rfl ?_
  refine xs_geti (64 * a0 + 2) dX7_topWhat_16 fl_X7_9 hs_a0 rfl rfl ?_
  refine x_iconst (v := (1 : Int32)) dX7_topWhat_19 (by decide) ?_
  refine x_isub dX7_topWhat_20 ?_
  refine xs_iald (64 * a0_1) (((I (64 * a0 + 2) 0) - (1 : Int32)).toNatClampNeg) dX7_topWhat_21 hs_a0_1 rfl rfl hb1 ?_
  exact x_sub [] rfl (K)
theorem bX7_topWhat_22 {I : Nat → Nat → Int32} {L : Nat → Int64} {Q : Option Value → (Nat → Nat → Int32) → (Nat → Int64) → Prop} {s0 : Int32}  (K : Q (some (.int s0)) I L) : XS mX7_topWhat 22 [] [.int s0] I L Q := by
  exact xs_iret dX7_topWhat_22 rfl rfl K
theorem bX7_isTopTo_0 {I : Nat → Nat → Int32} {L : Nat → Int64} {Q : Option Value → (Nat → Nat → Int32) → (Nat → Int64) → Prop} {a0 : Nat} {v1 : Int32} (hs_a0 : x_SH[a0]? = some (0, 7)) (K1 : ((I (64 * a0 + 2) 0) ≤ 0) → XS mX7_isTopTo 41 [] [] I L Q) (K2 : (¬ (I (64 * a0 + 2) 0) ≤ 0) → XS mX7_isTopTo 7 [(0, .ref a0), (1, .int v1)] [] I L Q) : XS mX7_isTopTo 0 [(0, .ref a0), (1, .int v1)] [] I L Q := by
  refine x_aload_n 0 dX7_isTopTo_0 rfl rfl ?_
  refine xs_geti (64 * a0 + 2) dX7_isTopTo_1 fl_X7_9 hs_a0 rfl rfl ?_
  exact x_if_le 41 dX7_isTopTo_4 (by decide) (fun h => x_sub [] rfl (K1 h)) (fun h => K2 h)
theorem bX7_isTopTo_7 {I : Nat → Nat → Int32} {L : Nat → Int64} {Q : Option Value → (Nat → Nat → Int32) → (Nat → Int64) → Prop} {a0 : Nat} {v1 : Int32} {a0_0 : Nat} {n_a0_0 : Nat} (hs_a0 : x_SH[a0]? = some (0, 7)) (hr_a0_0 : x_RF (64 * a0 + 0) = some a0_0) (hs_a0_0 : x_SH[a0_0]? = some (1, n_a0_0)) (hb1 : vp_in ((I (64 * a0 + 2) 0) - (1 : Int32)) n_a0_0) (K1 : ((I (64 * a0_0) (((I (64 * a0 + 2) 0) - (1 : Int32)).toNatClampNeg)) = (2 : Int32)) → XS mX7_isTopTo 41 [] [] I L Q) (K2 : (¬ (I (64 * a0_0) (((I (64 * a0 + 2) 0) - (1 : Int32)).toNatClampNeg)) = (2 : Int32)) → XS mX7_isTopTo 22 [(0, .ref a0), (1, .int v1)] [] I L Q) : XS mX7_isTopTo 7 [(0, .ref a0), (1, .int v1)] [] I L Q := by
  refine x_aload_n 0 dX7_isTopTo_7 rfl rfl ?_
  refine xs_getr dX7_isTopTo_8 fl_X7_21 hs_a0 rfl hr_a0_0 ?_
  refine x_aload_n 0 dX7_isTopTo_11 rfl rfl ?_
  refine xs_geti (64 * a0 + 2) dX7_isTopTo_12 fl_X7_9 hs_a0 rfl rfl ?_
  refine x_iconst (v := (1 : Int32)) dX7_isTopTo_15 (by decide) ?_
  refine x_isub dX7_isTopTo_16 ?_
  refine xs_iald (64 * a0_0) (((I (64 * a0 + 2) 0) - (1 : Int32)).toNatClampNeg) dX7_isTopTo_17 hs_a0_0 rfl rfl hb1 ?_
  refine x_iconst (v := (2 : Int32)) dX7_isTopTo_18 (by decide) ?_
  exact x_icmp_eq 41 dX7_isTopTo_19 (by decide) (fun h => x_sub [] rfl (K1 h)) (fun h => K2 h)
theorem bX7_isTopTo_22 {I : Nat → Nat → Int32} {L : Nat → Int64} {Q : Option Value → (Nat → Nat → Int32) → (Nat → Int64) → Prop} {a0 : Nat} {v1 : Int32} {a0_1 : Nat} {n_a0_1 : Nat} (hs_a0 : x_SH[a0]? = some (0, 7)) (hr_a0_1 : x_RF (64 * a0 + 1) = some a0_1) (hs_a0_1 : x_SH[a0_1]? = some (1, n_a0_1)) (hb1 : vp_in ((I (64 * a0 + 2) 0) - (1 : Int32)) n_a0_1) (K1 : (¬ (I (64 * a0_1) (((I (64 * a0 + 2) 0) - (1 : Int32)).toNatClampNeg)) = v1) → XS mX7_isTopTo 41 [] [] I L Q) (K2 : ((I (64 * a0_1) (((I (64 * a0 + 2) 0) - (1 : Int32)).toNatClampNeg)) = v1) → XS mX7_isTopTo 37 [] [] I L Q) : XS mX7_isTopTo 22 [(0, .ref a0), (1, .int v1)] [] I L Q := by
  refine x_aload_n 0 dX7_isTopTo_22 rfl rfl ?_
  refine xs_getr dX7_isTopTo_23 fl_X7_25 hs_a0 rfl hr_a0_1 ?_
  refine x_aload_n 0 dX7_isTopTo_26 rfl rfl ?_
  refine xs_geti (64 * a0 + 2) dX7_isTopTo_27 fl_X7_9 hs_a0 rfl rfl ?_
  refine x_iconst (v := (1 : Int32)) dX7_isTopTo_30 (by decide) ?_
  refine x_isub dX7_isTopTo_31 ?_
  refine xs_iald (64 * a0_1) (((I (64 * a0 + 2) 0) - (1 : Int32)).toNatClampNeg) dX7_isTopTo_32 hs_a0_1 rfl rfl hb1 ?_
  refine x_iload_n 1 dX7_isTopTo_33 rfl rfl ?_
  exact x_icmp_ne 41 dX7_isTopTo_34 (by decide) (fun h => x_sub [] rfl (K1 h)) (fun h => x_sub [] rfl (K2 h))
theorem bX7_isTopTo_37 {I : Nat → Nat → Int32} {L : Nat → Int64} {Q : Option Value → (Nat → Nat → Int32) → (Nat → Int64) → Prop}   (K : XS mX7_isTopTo 42 [] [.int (1 : Int32)] I L Q) : XS mX7_isTopTo 37 [] [] I L Q := by
  refine x_iconst (v := (1 : Int32)) dX7_isTopTo_37 (by decide) ?_
  exact x_goto 42 dX7_isTopTo_38 (by decide) (K)
theorem bX7_isTopTo_41 {I : Nat → Nat → Int32} {L : Nat → Int64} {Q : Option Value → (Nat → Nat → Int32) → (Nat → Int64) → Prop}   (K : XS mX7_isTopTo 42 [] [.int (0 : Int32)] I L Q) : XS mX7_isTopTo 41 [] [] I L Q := by
  refine x_iconst (v := (0 : Int32)) dX7_isTopTo_41 (by decide) ?_
  exact K
theorem bX7_isTopTo_42 {I : Nat → Nat → Int32} {L : Nat → Int64} {Q : Option Value → (Nat → Nat → Int32) → (Nat → Int64) → Prop} {s0 : Int32} (hz1 : s0 = 0 ∨ s0 = 1) (K : Q (some (.int s0)) I L) : XS mX7_isTopTo 42 [] [.int s0] I L Q := by
  exact xs_iret dX7_isTopTo_42 rfl (x_nar _ hz1) K
theorem bX7_dropTop_0 {I : Nat → Nat → Int32} {L : Nat → Int64} {Q : Option Value → (Nat → Nat → Int32) → (Nat → Int64) → Prop} {a0 : Nat} (hs_a0 : x_SH[a0]? = some (0, 7)) (K1 : ((I (64 * a0 + 2) 0) ≤ 0) → XS mX7_dropTop 17 [] [] I L Q) (K2 : (¬ (I (64 * a0 + 2) 0) ≤ 0) → XS mX7_dropTop 7 [(0, .ref a0)] [] I L Q) : XS mX7_dropTop 0 [(0, .ref a0)] [] I L Q := by
  refine x_aload_n 0 dX7_dropTop_0 rfl rfl ?_
  refine xs_geti (64 * a0 + 2) dX7_dropTop_1 fl_X7_9 hs_a0 rfl rfl ?_
  exact x_if_le 17 dX7_dropTop_4 (by decide) (fun h => x_sub [] rfl (K1 h)) (fun h => K2 h)
theorem bX7_dropTop_7 {I : Nat → Nat → Int32} {L : Nat → Int64} {Q : Option Value → (Nat → Nat → Int32) → (Nat → Int64) → Prop} {a0 : Nat} (hs_a0 : x_SH[a0]? = some (0, 7)) (K : XS mX7_dropTop 17 [] [] (x_up I (64 * a0 + 2) 0 ((I (64 * a0 + 2) 0) - (1 : Int32))) L Q) : XS mX7_dropTop 7 [(0, .ref a0)] [] I L Q := by
  refine x_aload_n 0 dX7_dropTop_7 rfl rfl ?_
  refine x_dup dX7_dropTop_8 rfl ?_
  refine xs_geti (64 * a0 + 2) dX7_dropTop_9 fl_X7_9 hs_a0 rfl rfl ?_
  refine x_iconst (v := (1 : Int32)) dX7_dropTop_12 (by decide) ?_
  refine x_isub dX7_dropTop_13 ?_
  refine xs_puti (64 * a0 + 2) dX7_dropTop_14 fl_X7_9 hs_a0 rfl rfl rfl ?_
  exact x_sub [] rfl (K)
theorem bX7_dropTop_17 {I : Nat → Nat → Int32} {L : Nat → Int64} {Q : Option Value → (Nat → Nat → Int32) → (Nat → Int64) → Prop}   (K : Q none I L) : XS mX7_dropTop 17 [] [] I L Q := by
  exact xs_end dX7_dropTop_17 rfl K
theorem bX7_told_0 {I : Nat → Nat → Int32} {L : Nat → Int64} {Q : Option Value → (Nat → Nat → Int32) → (Nat → Int64) → Prop} {a0 : Nat} {v1 : Int32}  (K1 : (¬ v1 = (-1 : Int32)) → XS mX7_told 10 [(0, .ref a0), (1, .int v1)] [] I L Q) (K2 : (v1 = (-1 : Int32)) → XS mX7_told 5 [(0, .ref a0)] [] I L Q) : XS mX7_told 0 [(0, .ref a0), (1, .int v1)] [] I L Q := by
  refine x_iload_n 1 dX7_told_0 rfl rfl ?_
  refine x_iconst (v := (-1 : Int32)) dX7_told_1 (by decide) ?_
  exact x_icmp_ne 10 dX7_told_2 (by decide) (fun h => K1 h) (fun h => x_sub [0] rfl (K2 h))
theorem bX7_told_5 {I : Nat → Nat → Int32} {L : Nat → Int64} {Q : Option Value → (Nat → Nat → Int32) → (Nat → Int64) → Prop} {a0 : Nat} (hs_a0 : x_SH[a0]? = some (0, 7)) (K : Q (some (.int (I (64 * a0 + 2) 0))) I L) : XS mX7_told 5 [(0, .ref a0)] [] I L Q := by
  refine x_aload_n 0 dX7_told_5 rfl rfl ?_
  refine xs_geti (64 * a0 + 2) dX7_told_6 fl_X7_9 hs_a0 rfl rfl ?_
  exact xs_iret dX7_told_9 rfl rfl K
theorem bX7_told_10 {I : Nat → Nat → Int32} {L : Nat → Int64} {Q : Option Value → (Nat → Nat → Int32) → (Nat → Int64) → Prop} {a0 : Nat} {v1 : Int32}  (K1 : (v1 < 0) → XS mX7_told 41 [] [] I L Q) (K2 : (¬ v1 < 0) → XS mX7_told 14 [(0, .ref a0), (1, .int v1)] [] I L Q) : XS mX7_told 10 [(0, .ref a0), (1, .int v1)] [] I L Q := by
  refine x_iload_n 1 dX7_told_10 rfl rfl ?_
  exact x_if_lt 41 dX7_told_11 (by decide) (fun h => x_sub [] rfl (K1 h)) (fun h => K2 h)
theorem bX7_told_14 {I : Nat → Nat → Int32} {L : Nat → Int64} {Q : Option Value → (Nat → Nat → Int32) → (Nat → Int64) → Prop} {a0 : Nat} {v1 : Int32} (hs_a0 : x_SH[a0]? = some (0, 7)) (K1 : ((I (64 * a0 + 2) 0) ≤ v1) → XS mX7_told 41 [] [] I L Q) (K2 : (¬ (I (64 * a0 + 2) 0) ≤ v1) → XS mX7_told 22 [(0, .ref a0), (1, .int v1)] [] I L Q) : XS mX7_told 14 [(0, .ref a0), (1, .int v1)] [] I L Q := by
  refine x_iload_n 1 dX7_told_14 rfl rfl ?_
  refine x_aload_n 0 dX7_told_15 rfl rfl ?_
  refine xs_geti (64 * a0 + 2) dX7_told_16 fl_X7_9 hs_a0 rfl rfl ?_
  exact x_icmp_ge 41 dX7_told_19 (by decide) (fun h => x_sub [] rfl (K1 h)) (fun h => K2 h)
theorem bX7_told_22 {I : Nat → Nat → Int32} {L : Nat → Int64} {Q : Option Value → (Nat → Nat → Int32) → (Nat → Int64) → Prop} {a0 : Nat} {v1 : Int32} {a0_0 : Nat} {n_a0_0 : Nat} {a0_1 : Nat} {n_a0_1 : Nat} (hs_a0 : x_SH[a0]? = some (0, 7)) (hr_a0_0 : x_RF (64 * a0 + 0) = some a0_0) (hs_a0_0 : x_SH[a0_0]? = some (1, n_a0_0)) (hb1 : vp_in v1 n_a0_0) (hr_a0_1 : x_RF (64 * a0 + 1) = some a0_1) (hs_a0_1 : x_SH[a0_1]? = some (1, n_a0_1)) (hb2 : vp_in v1 n_a0_1) (K : XS mX7_told 42 [] [.int (((100 : Int32) * (I (64 * a0_0) (v1.toNatClampNeg))) + (I (64 * a0_1) (v1.toNatClampNeg)))] I L Q) : XS mX7_told 22 [(0, .ref a0), (1, .int v1)] [] I L Q := by
  refine x_bipush (v := (100 : Int32)) dX7_told_22 (by decide) ?_
  refine x_aload_n 0 dX7_told_24 rfl rfl ?_
  refine xs_getr dX7_told_25 fl_X7_21 hs_a0 rfl hr_a0_0 ?_
  refine x_iload_n 1 dX7_told_28 rfl rfl ?_
  refine xs_iald (64 * a0_0) (v1.toNatClampNeg) dX7_told_29 hs_a0_0 rfl rfl hb1 ?_
  refine x_imul dX7_told_30 ?_
  refine x_aload_n 0 dX7_told_31 rfl rfl ?_
  refine xs_getr dX7_told_32 fl_X7_25 hs_a0 rfl hr_a0_1 ?_
  refine x_iload_n 1 dX7_told_35 rfl rfl ?_
  refine xs_iald (64 * a0_1) (v1.toNatClampNeg) dX7_told_36 hs_a0_1 rfl rfl hb2 ?_
  refine x_iadd dX7_told_37 ?_
  exact x_goto 42 dX7_told_38 (by decide) (x_sub [] rfl (K))
theorem bX7_told_41 {I : Nat → Nat → Int32} {L : Nat → Int64} {Q : Option Value → (Nat → Nat → Int32) → (Nat → Int64) → Prop}   (K : XS mX7_told 42 [] [.int (-1 : Int32)] I L Q) : XS mX7_told 41 [] [] I L Q := by
  refine x_iconst (v := (-1 : Int32)) dX7_told_41 (by decide) ?_
  exact K
theorem bX7_told_42 {I : Nat → Nat → Int32} {L : Nat → Int64} {Q : Option Value → (Nat → Nat → Int32) → (Nat → Int64) → Prop} {s0 : Int32}  (K : Q (some (.int s0)) I L) : XS mX7_told 42 [] [.int s0] I L Q := by
  exact xs_iret dX7_told_42 rfl rfl K
