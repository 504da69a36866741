/-! ===== blocks ===== -/
theorem bX5_measure_0 {I : Nat → Nat → Int32} {L : Nat → Int64} {Q : Option Value → (Nat → Nat → Int32) → (Nat → Int64) → Prop} {v1 : Int32} {v2 : Int32} {v3 : Int32}  (K1 : (¬ v2 = 0) → XS mX5_measure 14 [(0, .ref 16), (1, .int v1), (3, .int v3)] [] I L Q) (K2 : (v2 = 0) → XS mX5_measure 4 [(0, .ref 16), (1, .int v1), (3, .int v3)] [] I L Q) : XS mX5_measure 0 [(0, .ref 16), (1, .int v1), (2, .int v2), (3, .int v3)] [] I L Q := by
  refine x_iload_n 2 dX5_measure_0 rfl rfl ?_
  exact x_if_ne 14 dX5_measure_1 (by decide) (fun h => x_sub [0, 1, 3] rfl (K1 h)) (fun h => x_sub [0, 1, 3] rfl (K2 h))
theorem bX5_measure_4 {I : Nat → Nat → Int32} {L : Nat → Int64} {Q : Option Value → (Nat → Nat → Int32) → (Nat → Int64) → Prop} {v1 : Int32} {v3 : Int32}  (K : XS mX5_measure 21 [(0, .ref 16), (1, .int v1), (3, .int v3)] [.ref 4] I L Q) : XS mX5_measure 4 [(0, .ref 16), (1, .int v1), (3, .int v3)] [] I L Q := by
  refine x_aload_n 0 dX5_measure_4 rfl rfl ?_
  refine xs_getr dX5_measure_5 fl_X5_21 sh_16 rfl rf_1024 ?_
  refine xs_getr dX5_measure_8 fl_X5_25 sh_1 rfl rf_69 ?_
  exact x_goto 21 dX5_measure_11 (by decide) (K)
theorem bX5_measure_14 {I : Nat → Nat → Int32} {L : Nat → Int64} {Q : Option Value → (Nat → Nat → Int32) → (Nat → Int64) → Prop} {v1 : Int32} {v3 : Int32}  (K : XS mX5_measure 21 [(0, .ref 16), (1, .int v1), (3, .int v3)] [.ref 5] I L Q) : XS mX5_measure 14 [(0, .ref 16), (1, .int v1), (3, .int v3)] [] I L Q := by
  refine x_aload_n 0 dX5_measure_14 rfl rfl ?_
  refine xs_getr dX5_measure_15 fl_X5_21 sh_16 rfl rf_1024 ?_
  refine xs_getr dX5_measure_18 fl_X5_30 sh_1 rfl rf_70 ?_
  exact K
theorem bX5_measure_21 {I : Nat → Nat → Int32} {L : Nat → Int64} {Q : Option Value → (Nat → Nat → Int32) → (Nat → Int64) → Prop} {v1 : Int32} {v3 : Int32} {as0 : Nat}  (K : XS mX5_startFrom 0 [(0, .ref 16), (1, .int v1)] [] I L (fun r I' L' => XS mX5_measure 28 [(0, .ref 16), (3, .int v3), (4, .ref as0)] (r.toList ++ []) I' L' Q)) : XS mX5_measure 21 [(0, .ref 16), (1, .int v1), (3, .int v3)] [.ref as0] I L Q := by
  refine x_astore [(0, .ref 16), (1, .int v1), (3, .int v3), (4, .ref as0)] dX5_measure_21 (Nat.le_of_ble_eq_true rfl) rfl ?_
  refine x_aload_n 0 dX5_measure_23 rfl rfl ?_
  refine x_iload_n 1 dX5_measure_24 rfl rfl ?_
  refine x_sub [0, 2, 3] rfl ?_
  exact xs_callV mX5_startFrom [.int v1] [] 16 5 1 _ rfl dX5_measure_25 ml_X5_33 qX5_startFrom rfl ⟨Nat.le_of_ble_eq_true rfl, Nat.le_of_ble_eq_true rfl⟩ ⟨rfl, rfl⟩ (Nat.le_of_ble_eq_true rfl) sh_16 (by decide) rfl (Nat.le_of_ble_eq_true rfl) (K)
theorem bX5_measure_28 {I : Nat → Nat → Int32} {L : Nat → Int64} {Q : Option Value → (Nat → Nat → Int32) → (Nat → Int64) → Prop} {v3 : Int32} {a4 : Nat}  (K : XS mX5_measure 31 [(0, .ref 16), (3, .int v3), (4, .ref a4), (5, .int (1 : Int32))] [] I L Q) : XS mX5_measure 28 [(0, .ref 16), (3, .int v3), (4, .ref a4)] [] I L Q := by
  refine x_iconst (v := (1 : Int32)) dX5_measure_28 (by decide) ?_
  refine x_istore [(0, .ref 16), (3, .int v3), (4, .ref a4), (5, .int (1 : Int32))] dX5_measure_29 (Nat.le_of_ble_eq_true rfl) rfl ?_
  exact K
theorem bX5_measure_31 {I : Nat → Nat → Int32} {L : Nat → Int64} {Q : Option Value → (Nat → Nat → Int32) → (Nat → Int64) → Prop} {v3 : Int32} {a4 : Nat} {v5 : Int32}  (K1 : ((I 64 0) ≤ v5) → XS mX5_measure 138 [(0, .ref 16), (3, .int v3), (4, .ref a4)] [] I L Q) (K2 : (¬ (I 64 0) ≤ v5) → XS mX5_measure 43 [(0, .ref 16), (3, .int v3), (4, .ref a4), (5, .int v5)] [] I L Q) : XS mX5_measure 31 [(0, .ref 16), (3, .int v3), (4, .ref a4), (5, .int v5)] [] I L Q := by
  refine x_iload 3 dX5_measure_31 rfl ?_
  refine x_aload_n 0 dX5_measure_33 rfl rfl ?_
  refine xs_getr dX5_measure_34 fl_X5_21 sh_16 rfl rf_1024 ?_
  refine xs_geti 64 dX5_measure_37 fl_X5_37 sh_1 rfl rfl ?_
  exact x_icmp_ge 138 dX5_measure_40 (by decide) (fun h => x_sub [0, 1, 2] rfl (K1 h)) (fun h => K2 h)
theorem bX5_measure_43 {I : Nat → Nat → Int32} {L : Nat → Int64} {Q : Option Value → (Nat → Nat → Int32) → (Nat → Int64) → Prop} {v3 : Int32} {a4 : Nat} {v5 : Int32}  (K : XS mX5_measure 46 [(0, .ref 16), (3, .int v3), (4, .ref a4), (5, .int v5), (6, .int (0 : Int32))] [] I L Q) : XS mX5_measure 43 [(0, .ref 16), (3, .int v3), (4, .ref a4), (5, .int v5)] [] I L Q := by
  refine x_iconst (v := (0 : Int32)) dX5_measure_43 (by decide) ?_
  refine x_istore [(0, .ref 16), (3, .int v3), (4, .ref a4), (5, .int v5), (6, .int (0 : Int32))] dX5_measure_44 (Nat.le_of_ble_eq_true rfl) rfl ?_
  exact K
theorem bX5_measure_46 {I : Nat → Nat → Int32} {L : Nat → Int64} {Q : Option Value → (Nat → Nat → Int32) → (Nat → Int64) → Prop} {v3 : Int32} {a4 : Nat} {v5 : Int32} {v6 : Int32}  (K1 : ((I 65 0) ≤ v6) → XS mX5_measure 132 [(0, .ref 16), (3, .int v3), (4, .ref a4), (5, .int v5)] [] I L Q) (K2 : (¬ (I 65 0) ≤ v6) → XS mX5_measure 58 [(0, .ref 16), (3, .int v3), (4, .ref a4), (5, .int v5), (6, .int v6)] [] I L Q) : XS mX5_measure 46 [(0, .ref 16), (3, .int v3), (4, .ref a4), (5, .int v5), (6, .int v6)] [] I L Q := by
  refine x_iload 4 dX5_measure_46 rfl ?_
  refine x_aload_n 0 dX5_measure_48 rfl rfl ?_
  refine xs_getr dX5_measure_49 fl_X5_21 sh_16 rfl rf_1024 ?_
  refine xs_geti 65 dX5_measure_52 fl_X5_41 sh_1 rfl rfl ?_
  exact x_icmp_ge 132 dX5_measure_55 (by decide) (fun h => x_sub [0, 1, 2, 3] rfl (K1 h)) (fun h => K2 h)
theorem bX5_measure_58 {I : Nat → Nat → Int32} {L : Nat → Int64} {Q : Option Value → (Nat → Nat → Int32) → (Nat → Int64) → Prop} {v3 : Int32} {a4 : Nat} {v5 : Int32} {v6 : Int32}  (K1 : (¬ ((v3 >>> (v6 &&& 31)) &&& (1 : Int32)) = (1 : Int32)) → XS mX5_measure 126 [(0, .ref 16), (3, .int v3), (4, .ref a4), (5, .int v5), (6, .int v6)] [] I L Q) (K2 : (((v3 >>> (v6 &&& 31)) &&& (1 : Int32)) = (1 : Int32)) → XS mX5_measure 68 [(0, .ref 16), (3, .int v3), (4, .ref a4), (5, .int v5), (6, .int v6)] [] I L Q) : XS mX5_measure 58 [(0, .ref 16), (3, .int v3), (4, .ref a4), (5, .int v5), (6, .int v6)] [] I L Q := by
  refine x_iload_n 1 dX5_measure_58 rfl rfl ?_
  refine x_iload 4 dX5_measure_59 rfl ?_
  refine x_ishr dX5_measure_61 ?_
  refine x_iconst (v := (1 : Int32)) dX5_measure_62 (by decide) ?_
  refine x_iand dX5_measure_63 ?_
  refine x_iconst (v := (1 : Int32)) dX5_measure_64 (by decide) ?_
  exact x_icmp_ne 126 dX5_measure_65 (by decide) (fun h => K1 h) (fun h => K2 h)
theorem bX5_measure_68 {I : Nat → Nat → Int32} {L : Nat → Int64} {Q : Option Value → (Nat → Nat → Int32) → (Nat → Int64) → Prop} {v3 : Int32} {a4 : Nat} {v5 : Int32} {v6 : Int32} {n_a4 : Nat} (hb1 : vp_in v6 14) (hb2 : vp_in v6 14) (hs_a4 : x_SH[a4]? = some (1, n_a4)) (hb3 : vp_in v6 n_a4) (K : XS mX5_shorten 0 [(0, .ref 16), (1, .int (I 128 (v6.toNatClampNeg))), (2, .int (I 192 (v6.toNatClampNeg))), (3, .int (I (64 * a4) (v6.toNatClampNeg)))] [] I L (fun r I' L' => XS mX5_measure 97 [(0, .ref 16), (3, .int v3), (4, .ref a4), (5, .int v5), (6, .int v6)] (r.toList ++ []) I' L' Q)) : XS mX5_measure 68 [(0, .ref 16), (3, .int v3), (4, .ref a4), (5, .int v5), (6, .int v6)] [] I L Q := by
  refine x_aload_n 0 dX5_measure_68 rfl rfl ?_
  refine x_aload_n 0 dX5_measure_69 rfl rfl ?_
  refine xs_getr dX5_measure_70 fl_X5_21 sh_16 rfl rf_1024 ?_
  refine xs_getr dX5_measure_73 fl_X5_44 sh_1 rfl rf_67 ?_
  refine x_iload 4 dX5_measure_76 rfl ?_
  refine xs_iald 128 (v6.toNatClampNeg) dX5_measure_78 sh_2 rfl rfl hb1 ?_
  refine x_aload_n 0 dX5_measure_79 rfl rfl ?_
  refine xs_getr dX5_measure_80 fl_X5_21 sh_16 rfl rf_1024 ?_
  refine xs_getr dX5_measure_83 fl_X5_47 sh_1 rfl rf_68 ?_
  refine x_iload 4 dX5_measure_86 rfl ?_
  refine xs_iald 192 (v6.toNatClampNeg) dX5_measure_88 sh_3 rfl rfl hb2 ?_
  refine x_aload 2 dX5_measure_89 rfl ?_
  refine x_iload 4 dX5_measure_91 rfl ?_
  refine xs_iald (64 * a4) (v6.toNatClampNeg) dX5_measure_93 hs_a4 rfl rfl hb3 ?_
  exact xs_callV mX5_shorten [.int (I 128 (v6.toNatClampNeg)), .int (I 192 (v6.toNatClampNeg)), .int (I (64 * a4) (v6.toNatClampNeg))] [] 16 5 3 _ rfl dX5_measure_94 ml_X5_50 qX5_shorten rfl ⟨Nat.le_of_ble_eq_true rfl, Nat.le_of_ble_eq_true rfl⟩ ⟨rfl, rfl⟩ (Nat.le_of_ble_eq_true rfl) sh_16 (by decide) rfl (Nat.le_of_ble_eq_true rfl) (K)
theorem bX5_measure_97 {I : Nat → Nat → Int32} {L : Nat → Int64} {Q : Option Value → (Nat → Nat → Int32) → (Nat → Int64) → Prop} {v3 : Int32} {a4 : Nat} {v5 : Int32} {v6 : Int32} {n_a4 : Nat} (hb1 : vp_in v6 14) (hb2 : vp_in v6 14) (hs_a4 : x_SH[a4]? = some (1, n_a4)) (hb3 : vp_in v6 n_a4) (K : XS mX5_shorten 0 [(0, .ref 16), (1, .int (I 192 (v6.toNatClampNeg))), (2, .int (I 128 (v6.toNatClampNeg))), (3, .int (I (64 * a4) (v6.toNatClampNeg)))] [] I L (fun r I' L' => XS mX5_measure 126 [(0, .ref 16), (3, .int v3), (4, .ref a4), (5, .int v5), (6, .int v6)] (r.toList ++ []) I' L' Q)) : XS mX5_measure 97 [(0, .ref 16), (3, .int v3), (4, .ref a4), (5, .int v5), (6, .int v6)] [] I L Q := by
  refine x_aload_n 0 dX5_measure_97 rfl rfl ?_
  refine x_aload_n 0 dX5_measure_98 rfl rfl ?_
  refine xs_getr dX5_measure_99 fl_X5_21 sh_16 rfl rf_1024 ?_
  refine xs_getr dX5_measure_102 fl_X5_47 sh_1 rfl rf_68 ?_
  refine x_iload 4 dX5_measure_105 rfl ?_
  refine xs_iald 192 (v6.toNatClampNeg) dX5_measure_107 sh_3 rfl rfl hb1 ?_
  refine x_aload_n 0 dX5_measure_108 rfl rfl ?_
  refine xs_getr dX5_measure_109 fl_X5_21 sh_16 rfl rf_1024 ?_
  refine xs_getr dX5_measure_112 fl_X5_44 sh_1 rfl rf_67 ?_
  refine x_iload 4 dX5_measure_115 rfl ?_
  refine xs_iald 128 (v6.toNatClampNeg) dX5_measure_117 sh_2 rfl rfl hb2 ?_
  refine x_aload 2 dX5_measure_118 rfl ?_
  refine x_iload 4 dX5_measure_120 rfl ?_
  refine xs_iald (64 * a4) (v6.toNatClampNeg) dX5_measure_122 hs_a4 rfl rfl hb3 ?_
  exact xs_callV mX5_shorten [.int (I 192 (v6.toNatClampNeg)), .int (I 128 (v6.toNatClampNeg)), .int (I (64 * a4) (v6.toNatClampNeg))] [] 16 5 3 _ rfl dX5_measure_123 ml_X5_50 qX5_shorten rfl ⟨Nat.le_of_ble_eq_true rfl, Nat.le_of_ble_eq_true rfl⟩ ⟨rfl, rfl⟩ (Nat.le_of_ble_eq_true rfl) sh_16 (by decide) rfl (Nat.le_of_ble_eq_true rfl) (K)
theorem bX5_measure_126 {I : Nat → Nat → Int32} {L : Nat → Int64} {Q : Option Value → (Nat → Nat → Int32) → (Nat → Int64) → Prop} {v3 : Int32} {a4 : Nat} {v5 : Int32} {v6 : Int32}  (K : XS mX5_measure 46 [(0, .ref 16), (3, .int v3), (4, .ref a4), (5, .int v5), (6, .int (v6 + (1 : Int32)))] [] I L Q) : XS mX5_measure 126 [(0, .ref 16), (3, .int v3), (4, .ref a4), (5, .int v5), (6, .int v6)] [] I L Q := by
  refine x_iinc 4 (v6 + (1 : Int32)) [(0, .ref 16), (3, .int v3), (4, .ref a4), (5, .int v5), (6, .int (v6 + (1 : Int32)))] dX5_measure_126 rfl rfl (Nat.le_of_ble_eq_true rfl) rfl ?_
  exact x_goto 46 dX5_measure_129 (by decide) (K)
theorem bX5_measure_132 {I : Nat → Nat → Int32} {L : Nat → Int64} {Q : Option Value → (Nat → Nat → Int32) → (Nat → Int64) → Prop} {v3 : Int32} {a4 : Nat} {v5 : Int32}  (K : XS mX5_measure 31 [(0, .ref 16), (3, .int v3), (4, .ref a4), (5, .int (v5 + (1 : Int32)))] [] I L Q) : XS mX5_measure 132 [(0, .ref 16), (3, .int v3), (4, .ref a4), (5, .int v5)] [] I L Q := by
  refine x_iinc 3 (v5 + (1 : Int32)) [(0, .ref 16), (3, .int v3), (4, .ref a4), (5, .int (v5 + (1 : Int32)))] dX5_measure_132 rfl rfl (Nat.le_of_ble_eq_true rfl) rfl ?_
  exact x_goto 31 dX5_measure_135 (by decide) (K)
theorem bX5_measure_138 {I : Nat → Nat → Int32} {L : Nat → Int64} {Q : Option Value → (Nat → Nat → Int32) → (Nat → Int64) → Prop} {v3 : Int32} {a4 : Nat}  (K : XS mX5_measure 141 [(0, .ref 16), (3, .int v3), (4, .ref a4), (5, .int (0 : Int32))] [] I L Q) : XS mX5_measure 138 [(0, .ref 16), (3, .int v3), (4, .ref a4)] [] I L Q := by
  refine x_iconst (v := (0 : Int32)) dX5_measure_138 (by decide) ?_
  refine x_istore [(0, .ref 16), (3, .int v3), (4, .ref a4), (5, .int (0 : Int32))] dX5_measure_139 (Nat.le_of_ble_eq_true rfl) rfl ?_
  exact K
theorem bX5_measure_141 {I : Nat → Nat → Int32} {L : Nat → Int64} {Q : Option Value → (Nat → Nat → Int32) → (Nat → Int64) → Prop} {v3 : Int32} {a4 : Nat} {v5 : Int32}  (K1 : ((I 65 0) ≤ v5) → XS mX5_measure 231 [] [] I L Q) (K2 : (¬ (I 65 0) ≤ v5) → XS mX5_measure 153 [(0, .ref 16), (3, .int v3), (4, .ref a4), (5, .int v5)] [] I L Q) : XS mX5_measure 141 [(0, .ref 16), (3, .int v3), (4, .ref a4), (5, .int v5)] [] I L Q := by
  refine x_iload 3 dX5_measure_141 rfl ?_
  refine x_aload_n 0 dX5_measure_143 rfl rfl ?_
  refine xs_getr dX5_measure_144 fl_X5_21 sh_16 rfl rf_1024 ?_
  refine xs_geti 65 dX5_measure_147 fl_X5_41 sh_1 rfl rfl ?_
  exact x_icmp_ge 231 dX5_measure_150 (by decide) (fun h => x_sub [] rfl (K1 h)) (fun h => K2 h)
theorem bX5_measure_153 {I : Nat → Nat → Int32} {L : Nat → Int64} {Q : Option Value → (Nat → Nat → Int32) → (Nat → Int64) → Prop} {v3 : Int32} {a4 : Nat} {v5 : Int32}  (K1 : (¬ ((v3 >>> (v5 &&& 31)) &&& (1 : Int32)) = (1 : Int32)) → XS mX5_measure 225 [(0, .ref 16), (3, .int v3), (4, .ref a4), (5, .int v5)] [] I L Q) (K2 : (((v3 >>> (v5 &&& 31)) &&& (1 : Int32)) = (1 : Int32)) → XS mX5_measure 163 [(0, .ref 16), (3, .int v3), (4, .ref a4), (5, .int v5)] [] I L Q) : XS mX5_measure 153 [(0, .ref 16), (3, .int v3), (4, .ref a4), (5, .int v5)] [] I L Q := by
  refine x_iload_n 1 dX5_measure_153 rfl rfl ?_
  refine x_iload 3 dX5_measure_154 rfl ?_
  refine x_ishr dX5_measure_156 ?_
  refine x_iconst (v := (1 : Int32)) dX5_measure_157 (by decide) ?_
  refine x_iand dX5_measure_158 ?_
  refine x_iconst (v := (1 : Int32)) dX5_measure_159 (by decide) ?_
  exact x_icmp_ne 225 dX5_measure_160 (by decide) (fun h => K1 h) (fun h => K2 h)
theorem bX5_measure_163 {I : Nat → Nat → Int32} {L : Nat → Int64} {Q : Option Value → (Nat → Nat → Int32) → (Nat → Int64) → Prop} {v3 : Int32} {a4 : Nat} {v5 : Int32} {n_a4 : Nat} (hb1 : vp_in v5 14) (hb2 : vp_in v5 14) (hs_a4 : x_SH[a4]? = some (1, n_a4)) (hb3 : vp_in v5 n_a4) (K : XS mX5_leadOn 0 [(0, .ref 16), (1, .int (I 128 (v5.toNatClampNeg))), (2, .int (I 192 (v5.toNatClampNeg))), (3, .int v5), (4, .int (I (64 * a4) (v5.toNatClampNeg)))] [] I L (fun r I' L' => XS mX5_measure 194 [(0, .ref 16), (3, .int v3), (4, .ref a4), (5, .int v5)] (r.toList ++ []) I' L' Q)) : XS mX5_measure 163 [(0, .ref 16), (3, .int v3), (4, .ref a4), (5, .int v5)] [] I L Q := by
  refine x_aload_n 0 dX5_measure_163 rfl rfl ?_
  refine x_aload_n 0 dX5_measure_164 rfl rfl ?_
  refine xs_getr dX5_measure_165 fl_X5_21 sh_16 rfl rf_1024 ?_
  refine xs_getr dX5_measure_168 fl_X5_44 sh_1 rfl rf_67 ?_
  refine x_iload 3 dX5_measure_171 rfl ?_
  refine xs_iald 128 (v5.toNatClampNeg) dX5_measure_173 sh_2 rfl rfl hb1 ?_
  refine x_aload_n 0 dX5_measure_174 rfl rfl ?_
  refine xs_getr dX5_measure_175 fl_X5_21 sh_16 rfl rf_1024 ?_
  refine xs_getr dX5_measure_178 fl_X5_47 sh_1 rfl rf_68 ?_
  refine x_iload 3 dX5_measure_181 rfl ?_
  refine xs_iald 192 (v5.toNatClampNeg) dX5_measure_183 sh_3 rfl rfl hb2 ?_
  refine x_iload 3 dX5_measure_184 rfl ?_
  refine x_aload 2 dX5_measure_186 rfl ?_
  refine x_iload 3 dX5_measure_188 rfl ?_
  refine xs_iald (64 * a4) (v5.toNatClampNeg) dX5_measure_190 hs_a4 rfl rfl hb3 ?_
  exact xs_callV mX5_leadOn [.int (I 128 (v5.toNatClampNeg)), .int (I 192 (v5.toNatClampNeg)), .int v5, .int (I (64 * a4) (v5.toNatClampNeg))] [] 16 5 4 _ rfl dX5_measure_191 ml_X5_54 qX5_leadOn rfl ⟨Nat.le_of_ble_eq_true rfl, Nat.le_of_ble_eq_true rfl⟩ ⟨rfl, rfl⟩ (Nat.le_of_ble_eq_true rfl) sh_16 (by decide) rfl (Nat.le_of_ble_eq_true rfl) (K)
theorem bX5_measure_194 {I : Nat → Nat → Int32} {L : Nat → Int64} {Q : Option Value → (Nat → Nat → Int32) → (Nat → Int64) → Prop} {v3 : Int32} {a4 : Nat} {v5 : Int32} {n_a4 : Nat} (hb1 : vp_in v5 14) (hb2 : vp_in v5 14) (hs_a4 : x_SH[a4]? = some (1, n_a4)) (hb3 : vp_in v5 n_a4) (K : XS mX5_leadOn 0 [(0, .ref 16), (1, .int (I 192 (v5.toNatClampNeg))), (2, .int (I 128 (v5.toNatClampNeg))), (3, .int v5), (4, .int (I (64 * a4) (v5.toNatClampNeg)))] [] I L (fun r I' L' => XS mX5_measure 225 [(0, .ref 16), (3, .int v3), (4, .ref a4), (5, .int v5)] (r.toList ++ []) I' L' Q)) : XS mX5_measure 194 [(0, .ref 16), (3, .int v3), (4, .ref a4), (5, .int v5)] [] I L Q := by
  refine x_aload_n 0 dX5_measure_194 rfl rfl ?_
  refine x_aload_n 0 dX5_measure_195 rfl rfl ?_
  refine xs_getr dX5_measure_196 fl_X5_21 sh_16 rfl rf_1024 ?_
  refine xs_getr dX5_measure_199 fl_X5_47 sh_1 rfl rf_68 ?_
  refine x_iload 3 dX5_measure_202 rfl ?_
  refine xs_iald 192 (v5.toNatClampNeg) dX5_measure_204 sh_3 rfl rfl hb1 ?_
  refine x_aload_n 0 dX5_measure_205 rfl rfl ?_
  refine xs_getr dX5_measure_206 fl_X5_21 sh_16 rfl rf_1024 ?_
  refine xs_getr dX5_measure_209 fl_X5_44 sh_1 rfl rf_67 ?_
  refine x_iload 3 dX5_measure_212 rfl ?_
  refine xs_iald 128 (v5.toNatClampNeg) dX5_measure_214 sh_2 rfl rfl hb2 ?_
  refine x_iload 3 dX5_measure_215 rfl ?_
  refine x_aload 2 dX5_measure_217 rfl ?_
  refine x_iload 3 dX5_measure_219 rfl ?_
  refine xs_iald (64 * a4) (v5.toNatClampNeg) dX5_measure_221 hs_a4 rfl rfl hb3 ?_
  exact xs_callV mX5_leadOn [.int (I 192 (v5.toNatClampNeg)), .int (I 128 (v5.toNatClampNeg)), .int v5, .int (I (64 * a4) (v5.toNatClampNeg))] [] 16 5 4 _ rfl dX5_measure_222 ml_X5_54 qX5_leadOn rfl ⟨Nat.le_of_ble_eq_true rfl, Nat.le_of_ble_eq_true rfl⟩ ⟨rfl, rfl⟩ (Nat.le_of_ble_eq_true rfl) sh_16 (by decide) rfl (Nat.le_of_ble_eq_true rfl) (K)
theorem bX5_measure_225 {I : Nat → Nat → Int32} {L : Nat → Int64} {Q : Option Value → (Nat → Nat → Int32) → (Nat → Int64) → Prop} {v3 : Int32} {a4 : Nat} {v5 : Int32}  (K : XS mX5_measure 141 [(0, .ref 16), (3, .int v3), (4, .ref a4), (5, .int (v5 + (1 : Int32)))] [] I L Q) : XS mX5_measure 225 [(0, .ref 16), (3, .int v3), (4, .ref a4), (5, .int v5)] [] I L Q := by
  refine x_iinc 3 (v5 + (1 : Int32)) [(0, .ref 16), (3, .int v3), (4, .ref a4), (5, .int (v5 + (1 : Int32)))] dX5_measure_225 rfl rfl (Nat.le_of_ble_eq_true rfl) rfl ?_
  exact x_goto 141 dX5_measure_228 (by decide) (K)
theorem bX5_measure_231 {I : Nat → Nat → Int32} {L : Nat → Int64} {Q : Option Value → (Nat → Nat → Int32) → (Nat → Int64) → Prop}   (K : Q none I L) : XS mX5_measure 231 [] [] I L Q := by
  exact xs_end dX5_measure_231 rfl K
theorem bX5_startFrom_0 {I : Nat → Nat → Int32} {L : Nat → Int64} {Q : Option Value → (Nat → Nat → Int32) → (Nat → Int64) → Prop} {v1 : Int32}  (K : XS mX5_startFrom 2 [(0, .ref 16), (1, .int v1), (2, .int (0 : Int32))] [] I L Q) : XS mX5_startFrom 0 [(0, .ref 16), (1, .int v1)] [] I L Q := by
  refine x_iconst (v := (0 : Int32)) dX5_startFrom_0 (by decide) ?_
  refine x_istore_n [(0, .ref 16), (1, .int v1), (2, .int (0 : Int32))] dX5_startFrom_1 rfl (Nat.le_of_ble_eq_true rfl) rfl ?_
  exact K
theorem bX5_startFrom_2 {I : Nat → Nat → Int32} {L : Nat → Int64} {Q : Option Value → (Nat → Nat → Int32) → (Nat → Int64) → Prop} {v1 : Int32} {v2 : Int32}  (K1 : ((8 : Int32) ≤ v2) → XS mX5_startFrom 46 [] [] I L Q) (K2 : (¬ (8 : Int32) ≤ v2) → XS mX5_startFrom 8 [(0, .ref 16), (1, .int v1), (2, .int v2)] [] I L Q) : XS mX5_startFrom 2 [(0, .ref 16), (1, .int v1), (2, .int v2)] [] I L Q := by
  refine x_iload_n 2 dX5_startFrom_2 rfl rfl ?_
  refine x_bipush (v := (8 : Int32)) dX5_startFrom_3 (by decide) ?_
  exact x_icmp_ge 46 dX5_startFrom_5 (by decide) (fun h => x_sub [] rfl (K1 h)) (fun h => K2 h)
theorem bX5_startFrom_8 {I : Nat → Nat → Int32} {L : Nat → Int64} {Q : Option Value → (Nat → Nat → Int32) → (Nat → Int64) → Prop} {v1 : Int32} {v2 : Int32}  (K1 : (¬ v2 = v1) → XS mX5_startFrom 22 [(0, .ref 16), (1, .int v1), (2, .int v2)] [.int v2, .ref 17] I L Q) (K2 : (v2 = v1) → XS mX5_startFrom 18 [(0, .ref 16), (1, .int v1), (2, .int v2)] [.int v2, .ref 17] I L Q) : XS mX5_startFrom 8 [(0, .ref 16), (1, .int v1), (2, .int v2)] [] I L Q := by
  refine x_aload_n 0 dX5_startFrom_8 rfl rfl ?_
  refine xs_getr dX5_startFrom_9 fl_X5_9 sh_16 rfl rf_1025 ?_
  refine x_iload_n 2 dX5_startFrom_12 rfl rfl ?_
  refine x_iload_n 2 dX5_startFrom_13 rfl rfl ?_
  refine x_iload_n 1 dX5_startFrom_14 rfl rfl ?_
  exact x_icmp_ne 22 dX5_startFrom_15 (by decide) (fun h => K1 h) (fun h => K2 h)
theorem bX5_startFrom_18 {I : Nat → Nat → Int32} {L : Nat → Int64} {Q : Option Value → (Nat → Nat → Int32) → (Nat → Int64) → Prop} {v1 : Int32} {v2 : Int32} {s1 : Int32}  (K : XS mX5_startFrom 25 [(0, .ref 16), (1, .int v1), (2, .int v2)] [.int (0 : Int32), .int s1, .ref 17] I L Q) : XS mX5_startFrom 18 [(0, .ref 16), (1, .int v1), (2, .int v2)] [.int s1, .ref 17] I L Q := by
  refine x_iconst (v := (0 : Int32)) dX5_startFrom_18 (by decide) ?_
  exact x_goto 25 dX5_startFrom_19 (by decide) (K)
theorem bX5_startFrom_22 {I : Nat → Nat → Int32} {L : Nat → Int64} {Q : Option Value → (Nat → Nat → Int32) → (Nat → Int64) → Prop} {v1 : Int32} {v2 : Int32} {s1 : Int32}  (K : XS mX5_startFrom 25 [(0, .ref 16), (1, .int v1), (2, .int v2)] [.int (1000 : Int32), .int s1, .ref 17] I L Q) : XS mX5_startFrom 22 [(0, .ref 16), (1, .int v1), (2, .int v2)] [.int s1, .ref 17] I L Q := by
  refine x_sipush (v := (1000 : Int32)) dX5_startFrom_22 (by decide) ?_
  exact K
theorem bX5_startFrom_25 {I : Nat → Nat → Int32} {L : Nat → Int64} {Q : Option Value → (Nat → Nat → Int32) → (Nat → Int64) → Prop} {v1 : Int32} {v2 : Int32} {s1 : Int32} {s2 : Int32} (hb1 : vp_in s1 8) (hb2 : vp_in v2 8) (hb3 : vp_in v2 8) (K : XS mX5_startFrom 2 [(0, .ref 16), (1, .int v1), (2, .int (v2 + (1 : Int32)))] [] (x_up (x_up (x_up I 1088 (s1.toNatClampNeg) s2) 1152 (v2.toNatClampNeg) (-1 : Int32)) 1216 (v2.toNatClampNeg) (-1 : Int32)) L Q) : XS mX5_startFrom 25 [(0, .ref 16), (1, .int v1), (2, .int v2)] [.int s2, .int s1, .ref 17] I L Q := by
  refine xs_iast 1088 (s1.toNatClampNeg) dX5_startFrom_25 sh_17 rfl rfl hb1 ?_
  refine x_aload_n 0 dX5_startFrom_26 rfl rfl ?_
  refine xs_getr dX5_startFrom_27 fl_X5_15 sh_16 rfl rf_1026 ?_
  refine x_iload_n 2 dX5_startFrom_30 rfl rfl ?_
  refine x_iconst (v := (-1 : Int32)) dX5_startFrom_31 (by decide) ?_
  refine xs_iast 1152 (v2.toNatClampNeg) dX5_startFrom_32 sh_18 rfl rfl hb2 ?_
  refine x_aload_n 0 dX5_startFrom_33 rfl rfl ?_
  refine xs_getr dX5_startFrom_34 fl_X5_18 sh_16 rfl rf_1027 ?_
  refine x_iload_n 2 dX5_startFrom_37 rfl rfl ?_
  refine x_iconst (v := (-1 : Int32)) dX5_startFrom_38 (by decide) ?_
  refine xs_iast 1216 (v2.toNatClampNeg) dX5_startFrom_39 sh_19 rfl rfl hb3 ?_
  refine x_iinc 2 (v2 + (1 : Int32)) [(0, .ref 16), (1, .int v1), (2, .int (v2 + (1 : Int32)))] dX5_startFrom_40 rfl rfl (Nat.le_of_ble_eq_true rfl) rfl ?_
  exact x_goto 2 dX5_startFrom_43 (by decide) (K)
theorem bX5_startFrom_46 {I : Nat → Nat → Int32} {L : Nat → Int64} {Q : Option Value → (Nat → Nat → Int32) → (Nat → Int64) → Prop}   (K : Q none I L) : XS mX5_startFrom 46 [] [] I L Q := by
  exact xs_end dX5_startFrom_46 rfl K
theorem bX5_shorten_0 {I : Nat → Nat → Int32} {L : Nat → Int64} {Q : Option Value → (Nat → Nat → Int32) → (Nat → Int64) → Prop} {v1 : Int32} {v2 : Int32} {v3 : Int32} (hb1 : vp_in v2 8) (hb2 : vp_in v1 8) (K1 : ((I 1088 (v1.toNatClampNeg)) ≤ ((I 1088 (v2.toNatClampNeg)) + v3)) → XS mX5_shorten 31 [] [] I L Q) (K2 : (¬ (I 1088 (v1.toNatClampNeg)) ≤ ((I 1088 (v2.toNatClampNeg)) + v3)) → XS mX5_shorten 17 [(0, .ref 16), (1, .int v1), (2, .int v2), (3, .int v3)] [] I L Q) : XS mX5_shorten 0 [(0, .ref 16), (1, .int v1), (2, .int v2), (3, .int v3)] [] I L Q := by
  refine x_aload_n 0 dX5_shorten_0 rfl rfl ?_
  refine xs_getr dX5_shorten_1 fl_X5_9 sh_16 rfl rf_1025 ?_
  refine x_iload_n 2 dX5_shorten_4 rfl rfl ?_
  refine xs_iald 1088 (v2.toNatClampNeg) dX5_shorten_5 sh_17 rfl rfl hb1 ?_
  refine x_iload_n 3 dX5_shorten_6 rfl rfl ?_
  refine x_iadd dX5_shorten_7 ?_
  refine x_aload_n 0 dX5_shorten_8 rfl rfl ?_
  refine xs_getr dX5_shorten_9 fl_X5_9 sh_16 rfl rf_1025 ?_
  refine x_iload_n 1 dX5_shorten_12 rfl rfl ?_
  refine xs_iald 1088 (v1.toNatClampNeg) dX5_shorten_13 sh_17 rfl rfl hb2 ?_
  exact x_icmp_ge 31 dX5_shorten_14 (by decide) (fun h => x_sub [] rfl (K1 h)) (fun h => K2 h)
theorem bX5_shorten_17 {I : Nat → Nat → Int32} {L : Nat → Int64} {Q : Option Value → (Nat → Nat → Int32) → (Nat → Int64) → Prop} {v1 : Int32} {v2 : Int32} {v3 : Int32} (hb1 : vp_in v2 8) (hb2 : vp_in v1 8) (K : XS mX5_shorten 31 [] [] (x_up I 1088 (v1.toNatClampNeg) ((I 1088 (v2.toNatClampNeg)) + v3)) L Q) : XS mX5_shorten 17 [(0, .ref 16), (1, .int v1), (2, .int v2), (3, .int v3)] [] I L Q := by
  refine x_aload_n 0 dX5_shorten_17 rfl rfl ?_
  refine xs_getr dX5_shorten_18 fl_X5_9 sh_16 rfl rf_1025 ?_
  refine x_iload_n 1 dX5_shorten_21 rfl rfl ?_
  refine x_aload_n 0 dX5_shorten_22 rfl rfl ?_
  refine xs_getr dX5_shorten_23 fl_X5_9 sh_16 rfl rf_1025 ?_
  refine x_iload_n 2 dX5_shorten_26 rfl rfl ?_
  refine xs_iald 1088 (v2.toNatClampNeg) dX5_shorten_27 sh_17 rfl rfl hb1 ?_
  refine x_iload_n 3 dX5_shorten_28 rfl rfl ?_
  refine x_iadd dX5_shorten_29 ?_
  refine xs_iast 1088 (v1.toNatClampNeg) dX5_shorten_30 sh_17 rfl rfl hb2 ?_
  exact x_sub [] rfl (K)
theorem bX5_shorten_31 {I : Nat → Nat → Int32} {L : Nat → Int64} {Q : Option Value → (Nat → Nat → Int32) → (Nat → Int64) → Prop}   (K : Q none I L) : XS mX5_shorten 31 [] [] I L Q := by
  exact xs_end dX5_shorten_31 rfl K
theorem bX5_leadOn_0 {I : Nat → Nat → Int32} {L : Nat → Int64} {Q : Option Value → (Nat → Nat → Int32) → (Nat → Int64) → Prop} {v1 : Int32} {v2 : Int32} {v3 : Int32} {v4 : Int32} (hb1 : vp_in v2 8) (hb2 : vp_in v1 8) (K1 : (¬ ((I 1088 (v2.toNatClampNeg)) + v4) = (I 1088 (v1.toNatClampNeg))) → XS mX5_leadOn 22 [(0, .ref 16), (1, .int v1), (2, .int v2), (3, .int v3)] [] I L Q) (K2 : (((I 1088 (v2.toNatClampNeg)) + v4) = (I 1088 (v1.toNatClampNeg))) → XS mX5_leadOn 18 [(0, .ref 16), (1, .int v1), (2, .int v2), (3, .int v3)] [] I L Q) : XS mX5_leadOn 0 [(0, .ref 16), (1, .int v1), (2, .int v2), (3, .int v3), (4, .int v4)] [] I L Q := by
  refine x_aload_n 0 dX5_leadOn_0 rfl rfl ?_
  refine xs_getr dX5_leadOn_1 fl_X5_9 sh_16 rfl rf_1025 ?_
  refine x_iload_n 2 dX5_leadOn_4 rfl rfl ?_
  refine xs_iald 1088 (v2.toNatClampNeg) dX5_leadOn_5 sh_17 rfl rfl hb1 ?_
  refine x_iload 4 dX5_leadOn_6 rfl ?_
  refine x_iadd dX5_leadOn_8 ?_
  refine x_aload_n 0 dX5_leadOn_9 rfl rfl ?_
  refine xs_getr dX5_leadOn_10 fl_X5_9 sh_16 rfl rf_1025 ?_
  refine x_iload_n 1 dX5_leadOn_13 rfl rfl ?_
  refine xs_iald 1088 (v1.toNatClampNeg) dX5_leadOn_14 sh_17 rfl rfl hb2 ?_
  exact x_icmp_ne 22 dX5_leadOn_15 (by decide) (fun h => x_sub [0, 1, 2, 3] rfl (K1 h)) (fun h => x_sub [0, 1, 2, 3] rfl (K2 h))
theorem bX5_leadOn_18 {I : Nat → Nat → Int32} {L : Nat → Int64} {Q : Option Value → (Nat → Nat → Int32) → (Nat → Int64) → Prop} {v1 : Int32} {v2 : Int32} {v3 : Int32}  (K : XS mX5_leadOn 23 [(0, .ref 16), (1, .int v1), (2, .int v2), (3, .int v3)] [.int (1 : Int32)] I L Q) : XS mX5_leadOn 18 [(0, .ref 16), (1, .int v1), (2, .int v2), (3, .int v3)] [] I L Q := by
  refine x_iconst (v := (1 : Int32)) dX5_leadOn_18 (by decide) ?_
  exact x_goto 23 dX5_leadOn_19 (by decide) (K)
theorem bX5_leadOn_22 {I : Nat → Nat → Int32} {L : Nat → Int64} {Q : Option Value → (Nat → Nat → Int32) → (Nat → Int64) → Prop} {v1 : Int32} {v2 : Int32} {v3 : Int32}  (K : XS mX5_leadOn 23 [(0, .ref 16), (1, .int v1), (2, .int v2), (3, .int v3)] [.int (0 : Int32)] I L Q) : XS mX5_leadOn 22 [(0, .ref 16), (1, .int v1), (2, .int v2), (3, .int v3)] [] I L Q := by
  refine x_iconst (v := (0 : Int32)) dX5_leadOn_22 (by decide) ?_
  exact K
theorem bX5_leadOn_23 {I : Nat → Nat → Int32} {L : Nat → Int64} {Q : Option Value → (Nat → Nat → Int32) → (Nat → Int64) → Prop} {v1 : Int32} {v2 : Int32} {v3 : Int32} {s0 : Int32}  (K1 : (s0 = 0) → XS mX5_leadOn 64 [] [] I L Q) (K2 : (¬ s0 = 0) → XS mX5_leadOn 30 [(0, .ref 16), (1, .int v1), (2, .int v2), (3, .int v3)] [] I L Q) : XS mX5_leadOn 23 [(0, .ref 16), (1, .int v1), (2, .int v2), (3, .int v3)] [.int s0] I L Q := by
  refine x_istore [(0, .ref 16), (1, .int v1), (2, .int v2), (3, .int v3), (5, .int s0)] dX5_leadOn_23 (Nat.le_of_ble_eq_true rfl) rfl ?_
  refine x_iload 4 dX5_leadOn_25 rfl ?_
  exact x_if_eq 64 dX5_leadOn_27 (by decide) (fun h => x_sub [] rfl (K1 h)) (fun h => x_sub [0, 1, 2, 3] rfl (K2 h))
theorem bX5_leadOn_30 {I : Nat → Nat → Int32} {L : Nat → Int64} {Q : Option Value → (Nat → Nat → Int32) → (Nat → Int64) → Prop} {v1 : Int32} {v2 : Int32} {v3 : Int32} (hb1 : vp_in v1 8) (K1 : ((I 1152 (v1.toNatClampNeg)) = (-1 : Int32)) → XS mX5_leadOn 50 [(0, .ref 16), (1, .int v1), (2, .int v2), (3, .int v3)] [] I L Q) (K2 : (¬ (I 1152 (v1.toNatClampNeg)) = (-1 : Int32)) → XS mX5_leadOn 40 [(0, .ref 16), (1, .int v1), (2, .int v2), (3, .int v3)] [] I L Q) : XS mX5_leadOn 30 [(0, .ref 16), (1, .int v1), (2, .int v2), (3, .int v3)] [] I L Q := by
  refine x_aload_n 0 dX5_leadOn_30 rfl rfl ?_
  refine xs_getr dX5_leadOn_31 fl_X5_15 sh_16 rfl rf_1026 ?_
  refine x_iload_n 1 dX5_leadOn_34 rfl rfl ?_
  refine xs_iald 1152 (v1.toNatClampNeg) dX5_leadOn_35 sh_18 rfl rfl hb1 ?_
  refine x_iconst (v := (-1 : Int32)) dX5_leadOn_36 (by decide) ?_
  exact x_icmp_eq 50 dX5_leadOn_37 (by decide) (fun h => K1 h) (fun h => K2 h)
theorem bX5_leadOn_40 {I : Nat → Nat → Int32} {L : Nat → Int64} {Q : Option Value → (Nat → Nat → Int32) → (Nat → Int64) → Prop} {v1 : Int32} {v2 : Int32} {v3 : Int32} (hb1 : vp_in v1 8) (K1 : ((I 1152 (v1.toNatClampNeg)) ≤ v2) → XS mX5_leadOn 64 [] [] I L Q) (K2 : (¬ (I 1152 (v1.toNatClampNeg)) ≤ v2) → XS mX5_leadOn 50 [(0, .ref 16), (1, .int v1), (2, .int v2), (3, .int v3)] [] I L Q) : XS mX5_leadOn 40 [(0, .ref 16), (1, .int v1), (2, .int v2), (3, .int v3)] [] I L Q := by
  refine x_iload_n 2 dX5_leadOn_40 rfl rfl ?_
  refine x_aload_n 0 dX5_leadOn_41 rfl rfl ?_
  refine xs_getr dX5_leadOn_42 fl_X5_15 sh_16 rfl rf_1026 ?_
  refine x_iload_n 1 dX5_leadOn_45 rfl rfl ?_
  refine xs_iald 1152 (v1.toNatClampNeg) dX5_leadOn_46 sh_18 rfl rfl hb1 ?_
  exact x_icmp_ge 64 dX5_leadOn_47 (by decide) (fun h => x_sub [] rfl (K1 h)) (fun h => K2 h)
theorem bX5_leadOn_50 {I : Nat → Nat → Int32} {L : Nat → Int64} {Q : Option Value → (Nat → Nat → Int32) → (Nat → Int64) → Prop} {v1 : Int32} {v2 : Int32} {v3 : Int32} (hb1 : vp_in v1 8) (hb2 : vp_in v1 8) (K : XS mX5_leadOn 64 [] [] (x_up (x_up I 1152 (v1.toNatClampNeg) v2) 1216 (v1.toNatClampNeg) v3) L Q) : XS mX5_leadOn 50 [(0, .ref 16), (1, .int v1), (2, .int v2), (3, .int v3)] [] I L Q := by
  refine x_aload_n 0 dX5_leadOn_50 rfl rfl ?_
  refine xs_getr dX5_leadOn_51 fl_X5_15 sh_16 rfl rf_1026 ?_
  refine x_iload_n 1 dX5_leadOn_54 rfl rfl ?_
  refine x_iload_n 2 dX5_leadOn_55 rfl rfl ?_
  refine xs_iast 1152 (v1.toNatClampNeg) dX5_leadOn_56 sh_18 rfl rfl hb1 ?_
  refine x_aload_n 0 dX5_leadOn_57 rfl rfl ?_
  refine xs_getr dX5_leadOn_58 fl_X5_18 sh_16 rfl rf_1027 ?_
  refine x_iload_n 1 dX5_leadOn_61 rfl rfl ?_
  refine x_iload_n 3 dX5_leadOn_62 rfl rfl ?_
  refine xs_iast 1216 (v1.toNatClampNeg) dX5_leadOn_63 sh_19 rfl rfl hb2 ?_
  exact x_sub [] rfl (K)
theorem bX5_leadOn_64 {I : Nat → Nat → Int32} {L : Nat → Int64} {Q : Option Value → (Nat → Nat → Int32) → (Nat → Int64) → Prop}   (K : Q none I L) : XS mX5_leadOn 64 [] [] I L Q := by
  exact xs_end dX5_leadOn_64 rfl K
theorem bX5_sumFrom_0 {I : Nat → Nat → Int32} {L : Nat → Int64} {Q : Option Value → (Nat → Nat → Int32) → (Nat → Int64) → Prop} {v1 : Int32}  (K1 : (v1 < 0) → XS mX5_sumFrom 31 [] [] I L Q) (K2 : (¬ v1 < 0) → XS mX5_sumFrom 4 [(0, .ref 16), (1, .int v1)] [] I L Q) : XS mX5_sumFrom 0 [(0, .ref 16), (1, .int v1)] [] I L Q := by
  refine x_iload_n 1 dX5_sumFrom_0 rfl rfl ?_
  exact x_if_lt 31 dX5_sumFrom_1 (by decide) (fun h => x_sub [] rfl (K1 h)) (fun h => K2 h)
theorem bX5_sumFrom_4 {I : Nat → Nat → Int32} {L : Nat → Int64} {Q : Option Value → (Nat → Nat → Int32) → (Nat → Int64) → Prop} {v1 : Int32}  (K1 : ((8 : Int32) ≤ v1) → XS mX5_sumFrom 31 [] [] I L Q) (K2 : (¬ (8 : Int32) ≤ v1) → XS mX5_sumFrom 10 [(0, .ref 16), (1, .int v1)] [] I L Q) : XS mX5_sumFrom 4 [(0, .ref 16), (1, .int v1)] [] I L Q := by
  refine x_iload_n 1 dX5_sumFrom_4 rfl rfl ?_
  refine x_bipush (v := (8 : Int32)) dX5_sumFrom_5 (by decide) ?_
  exact x_icmp_ge 31 dX5_sumFrom_7 (by decide) (fun h => x_sub [] rfl (K1 h)) (fun h => K2 h)
theorem bX5_sumFrom_10 {I : Nat → Nat → Int32} {L : Nat → Int64} {Q : Option Value → (Nat → Nat → Int32) → (Nat → Int64) → Prop} {v1 : Int32} (hb1 : vp_in v1 8) (K1 : ((1000 : Int32) ≤ (I 1088 (v1.toNatClampNeg))) → XS mX5_sumFrom 31 [] [] I L Q) (K2 : (¬ (1000 : Int32) ≤ (I 1088 (v1.toNatClampNeg))) → XS mX5_sumFrom 22 [(0, .ref 16), (1, .int v1)] [] I L Q) : XS mX5_sumFrom 10 [(0, .ref 16), (1, .int v1)] [] I L Q := by
  refine x_aload_n 0 dX5_sumFrom_10 rfl rfl ?_
  refine xs_getr dX5_sumFrom_11 fl_X5_9 sh_16 rfl rf_1025 ?_
  refine x_iload_n 1 dX5_sumFrom_14 rfl rfl ?_
  refine xs_iald 1088 (v1.toNatClampNeg) dX5_sumFrom_15 sh_17 rfl rfl hb1 ?_
  refine x_sipush (v := (1000 : Int32)) dX5_sumFrom_16 (by decide) ?_
  exact x_icmp_ge 31 dX5_sumFrom_19 (by decide) (fun h => x_sub [] rfl (K1 h)) (fun h => K2 h)
theorem bX5_sumFrom_22 {I : Nat → Nat → Int32} {L : Nat → Int64} {Q : Option Value → (Nat → Nat → Int32) → (Nat → Int64) → Prop} {v1 : Int32} (hb1 : vp_in v1 8) (K : XS mX5_sumFrom 32 [] [.int (I 1088 (v1.toNatClampNeg))] I L Q) : XS mX5_sumFrom 22 [(0, .ref 16), (1, .int v1)] [] I L Q := by
  refine x_aload_n 0 dX5_sumFrom_22 rfl rfl ?_
  refine xs_getr dX5_sumFrom_23 fl_X5_9 sh_16 rfl rf_1025 ?_
  refine x_iload_n 1 dX5_sumFrom_26 rfl rfl ?_
  refine xs_iald 1088 (v1.toNatClampNeg) dX5_sumFrom_27 sh_17 rfl rfl hb1 ?_
  exact x_goto 32 dX5_sumFrom_28 (by decide) (x_sub [] rfl (K))
theorem bX5_sumFrom_31 {I : Nat → Nat → Int32} {L : Nat → Int64} {Q : Option Value → (Nat → Nat → Int32) → (Nat → Int64) → Prop}   (K : XS mX5_sumFrom 32 [] [.int (-1 : Int32)] I L Q) : XS mX5_sumFrom 31 [] [] I L Q := by
  refine x_iconst (v := (-1 : Int32)) dX5_sumFrom_31 (by decide) ?_
  exact K
theorem bX5_sumFrom_32 {I : Nat → Nat → Int32} {L : Nat → Int64} {Q : Option Value → (Nat → Nat → Int32) → (Nat → Int64) → Prop} {s0 : Int32}  (K : Q (some (.int s0)) I L) : XS mX5_sumFrom 32 [] [.int s0] I L Q := by
  exact xs_iret dX5_sumFrom_32 rfl rfl K
theorem bX5_nodeAhead_0 {I : Nat → Nat → Int32} {L : Nat → Int64} {Q : Option Value → (Nat → Nat → Int32) → (Nat → Int64) → Prop} {v1 : Int32}  (K1 : (v1 < 0) → XS mX5_nodeAhead 19 [] [] I L Q) (K2 : (¬ v1 < 0) → XS mX5_nodeAhead 4 [(0, .ref 16), (1, .int v1)] [] I L Q) : XS mX5_nodeAhead 0 [(0, .ref 16), (1, .int v1)] [] I L Q := by
  refine x_iload_n 1 dX5_nodeAhead_0 rfl rfl ?_
  exact x_if_lt 19 dX5_nodeAhead_1 (by decide) (fun h => x_sub [] rfl (K1 h)) (fun h => K2 h)
theorem bX5_nodeAhead_4 {I : Nat → Nat → Int32} {L : Nat → Int64} {Q : Option Value → (Nat → Nat → Int32) → (Nat → Int64) → Prop} {v1 : Int32}  (K1 : ((8 : Int32) ≤ v1) → XS mX5_nodeAhead 19 [] [] I L Q) (K2 : (¬ (8 : Int32) ≤ v1) → XS mX5_nodeAhead 10 [(0, .ref 16), (1, .int v1)] [] I L Q) : XS mX5_nodeAhead 4 [(0, .ref 16), (1, .int v1)] [] I L Q := by
  refine x_iload_n 1 dX5_nodeAhead_4 rfl rfl ?_
  refine x_bipush (v := (8 : Int32)) dX5_nodeAhead_5 (by decide) ?_
  exact x_icmp_ge 19 dX5_nodeAhead_7 (by decide) (fun h => x_sub [] rfl (K1 h)) (fun h => K2 h)
theorem bX5_nodeAhead_10 {I : Nat → Nat → Int32} {L : Nat → Int64} {Q : Option Value → (Nat → Nat → Int32) → (Nat → Int64) → Prop} {v1 : Int32} (hb1 : vp_in v1 8) (K : XS mX5_nodeAhead 20 [] [.int (I 1152 (v1.toNatClampNeg))] I L Q) : XS mX5_nodeAhead 10 [(0, .ref 16), (1, .int v1)] [] I L Q := by
  refine x_aload_n 0 dX5_nodeAhead_10 rfl rfl ?_
  refine xs_getr dX5_nodeAhead_11 fl_X5_15 sh_16 rfl rf_1026 ?_
  refine x_iload_n 1 dX5_nodeAhead_14 rfl rfl ?_
  refine xs_iald 1152 (v1.toNatClampNeg) dX5_nodeAhead_15 sh_18 rfl rfl hb1 ?_
  exact x_goto 20 dX5_nodeAhead_16 (by decide) (x_sub [] rfl (K))
theorem bX5_nodeAhead_19 {I : Nat → Nat → Int32} {L : Nat → Int64} {Q : Option Value → (Nat → Nat → Int32) → (Nat → Int64) → Prop}   (K : XS mX5_nodeAhead 20 [] [.int (-1 : Int32)] I L Q) : XS mX5_nodeAhead 19 [] [] I L Q := by
  refine x_iconst (v := (-1 : Int32)) dX5_nodeAhead_19 (by decide) ?_
  exact K
theorem bX5_nodeAhead_20 {I : Nat → Nat → Int32} {L : Nat → Int64} {Q : Option Value → (Nat → Nat → Int32) → (Nat → Int64) → Prop} {s0 : Int32}  (K : Q (some (.int s0)) I L) : XS mX5_nodeAhead 20 [] [.int s0] I L Q := by
  exact xs_iret dX5_nodeAhead_20 rfl rfl K
theorem bX5_linkAhead_0 {I : Nat → Nat → Int32} {L : Nat → Int64} {Q : Option Value → (Nat → Nat → Int32) → (Nat → Int64) → Prop} {v1 : Int32}  (K1 : (v1 < 0) → XS mX5_linkAhead 19 [] [] I L Q) (K2 : (¬ v1 < 0) → XS mX5_linkAhead 4 [(0, .ref 16), (1, .int v1)] [] I L Q) : XS mX5_linkAhead 0 [(0, .ref 16), (1, .int v1)] [] I L Q := by
  refine x_iload_n 1 dX5_linkAhead_0 rfl rfl ?_
  exact x_if_lt 19 dX5_linkAhead_1 (by decide) (fun h => x_sub [] rfl (K1 h)) (fun h => K2 h)
theorem bX5_linkAhead_4 {I : Nat → Nat → Int32} {L : Nat → Int64} {Q : Option Value → (Nat → Nat → Int32) → (Nat → Int64) → Prop} {v1 : Int32}  (K1 : ((8 : Int32) ≤ v1) → XS mX5_linkAhead 19 [] [] I L Q) (K2 : (¬ (8 : Int32) ≤ v1) → XS mX5_linkAhead 10 [(0, .ref 16), (1, .int v1)] [] I L Q) : XS mX5_linkAhead 4 [(0, .ref 16), (1, .int v1)] [] I L Q := by
  refine x_iload_n 1 dX5_linkAhead_4 rfl rfl ?_
  refine x_bipush (v := (8 : Int32)) dX5_linkAhead_5 (by decide) ?_
  exact x_icmp_ge 19 dX5_linkAhead_7 (by decide) (fun h => x_sub [] rfl (K1 h)) (fun h => K2 h)
theorem bX5_linkAhead_10 {I : Nat → Nat → Int32} {L : Nat → Int64} {Q : Option Value → (Nat → Nat → Int32) → (Nat → Int64) → Prop} {v1 : Int32} (hb1 : vp_in v1 8) (K : XS mX5_linkAhead 20 [] [.int (I 1216 (v1.toNatClampNeg))] I L Q) : XS mX5_linkAhead 10 [(0, .ref 16), (1, .int v1)] [] I L Q := by
  refine x_aload_n 0 dX5_linkAhead_10 rfl rfl ?_
  refine xs_getr dX5_linkAhead_11 fl_X5_18 sh_16 rfl rf_1027 ?_
  refine x_iload_n 1 dX5_linkAhead_14 rfl rfl ?_
  refine xs_iald 1216 (v1.toNatClampNeg) dX5_linkAhead_15 sh_19 rfl rfl hb1 ?_
  exact x_goto 20 dX5_linkAhead_16 (by decide) (x_sub [] rfl (K))
theorem bX5_linkAhead_19 {I : Nat → Nat → Int32} {L : Nat → Int64} {Q : Option Value → (Nat → Nat → Int32) → (Nat → Int64) → Prop}   (K : XS mX5_linkAhead 20 [] [.int (-1 : Int32)] I L Q) : XS mX5_linkAhead 19 [] [] I L Q := by
  refine x_iconst (v := (-1 : Int32)) dX5_linkAhead_19 (by decide) ?_
  exact K
theorem bX5_linkAhead_20 {I : Nat → Nat → Int32} {L : Nat → Int64} {Q : Option Value → (Nat → Nat → Int32) → (Nat → Int64) → Prop} {s0 : Int32}  (K : Q (some (.int s0)) I L) : XS mX5_linkAhead 20 [] [.int s0] I L Q := by
  exact xs_iret dX5_linkAhead_20 rfl rfl K
theorem bX5_walkSpares_0 {I : Nat → Nat → Int32} {L : Nat → Int64} {Q : Option Value → (Nat → Nat → Int32) → (Nat → Int64) → Prop} {v1 : Int32} {v2 : Int32} {v3 : Int32} {v4 : Int32}  (K : XS mX5_measure 0 [(0, .ref 16), (1, .int v2), (2, .int (0 : Int32)), (3, .int v3)] [] I L (fun r I' L' => XS mX5_walkSpares 7 [(0, .ref 16), (1, .int v1), (2, .int v2), (4, .int v4)] (r.toList ++ []) I' L' Q)) : XS mX5_walkSpares 0 [(0, .ref 16), (1, .int v1), (2, .int v2), (3, .int v3), (4, .int v4)] [] I L Q := by
  refine x_aload_n 0 dX5_walkSpares_0 rfl rfl ?_
  refine x_iload_n 2 dX5_walkSpares_1 rfl rfl ?_
  refine x_iconst (v := (0 : Int32)) dX5_walkSpares_2 (by decide) ?_
  refine x_iload_n 3 dX5_walkSpares_3 rfl rfl ?_
  refine x_sub [0, 1, 2, 4] rfl ?_
  exact xs_callV mX5_measure [.int v2, .int (0 : Int32), .int v3] [] 16 5 3 _ rfl dX5_walkSpares_4 ml_X5_58 qX5_measure rfl ⟨Nat.le_of_ble_eq_true rfl, Nat.le_of_ble_eq_true rfl⟩ ⟨rfl, rfl⟩ (Nat.le_of_ble_eq_true rfl) sh_16 (by decide) rfl (Nat.le_of_ble_eq_true rfl) (K)
theorem bX5_walkSpares_7 {I : Nat → Nat → Int32} {L : Nat → Int64} {Q : Option Value → (Nat → Nat → Int32) → (Nat → Int64) → Prop} {v1 : Int32} {v2 : Int32} {v4 : Int32}  (K : XS mX5_walkSpares 13 [(0, .ref 16), (2, .int v2), (4, .int v4), (5, .int v1), (6, .int (0 : Int32))] [] I L Q) : XS mX5_walkSpares 7 [(0, .ref 16), (1, .int v1), (2, .int v2), (4, .int v4)] [] I L Q := by
  refine x_iload_n 1 dX5_walkSpares_7 rfl rfl ?_
  refine x_istore [(0, .ref 16), (1, .int v1), (2, .int v2), (4, .int v4), (5, .int v1)] dX5_walkSpares_8 (Nat.le_of_ble_eq_true rfl) rfl ?_
  refine x_iconst (v := (0 : Int32)) dX5_walkSpares_10 (by decide) ?_
  refine x_istore [(0, .ref 16), (1, .int v1), (2, .int v2), (4, .int v4), (5, .int v1), (6, .int (0 : Int32))] dX5_walkSpares_11 (Nat.le_of_ble_eq_true rfl) rfl ?_
  exact x_sub [0, 2, 3, 4, 5] rfl (K)
theorem bX5_walkSpares_13 {I : Nat → Nat → Int32} {L : Nat → Int64} {Q : Option Value → (Nat → Nat → Int32) → (Nat → Int64) → Prop} {v2 : Int32} {v4 : Int32} {v5 : Int32} {v6 : Int32}  (K1 : ((8 : Int32) ≤ v6) → XS mX5_walkSpares 66 [(2, .int v2), (5, .int v5)] [] I L Q) (K2 : (¬ (8 : Int32) ≤ v6) → XS mX5_walkSpares 20 [(0, .ref 16), (2, .int v2), (4, .int v4), (5, .int v5), (6, .int v6)] [] I L Q) : XS mX5_walkSpares 13 [(0, .ref 16), (2, .int v2), (4, .int v4), (5, .int v5), (6, .int v6)] [] I L Q := by
  refine x_iload 4 dX5_walkSpares_13 rfl ?_
  refine x_bipush (v := (8 : Int32)) dX5_walkSpares_15 (by decide) ?_
  exact x_icmp_ge 66 dX5_walkSpares_17 (by decide) (fun h => x_sub [1, 3] rfl (K1 h)) (fun h => K2 h)
theorem bX5_walkSpares_20 {I : Nat → Nat → Int32} {L : Nat → Int64} {Q : Option Value → (Nat → Nat → Int32) → (Nat → Int64) → Prop} {v2 : Int32} {v4 : Int32} {v5 : Int32} {v6 : Int32}  (K1 : (v5 = v2) → XS mX5_walkSpares 66 [(2, .int v2), (5, .int v5)] [] I L Q) (K2 : (¬ v5 = v2) → XS mX5_walkSpares 26 [(0, .ref 16), (2, .int v2), (4, .int v4), (5, .int v5), (6, .int v6)] [] I L Q) : XS mX5_walkSpares 20 [(0, .ref 16), (2, .int v2), (4, .int v4), (5, .int v5), (6, .int v6)] [] I L Q := by
  refine x_iload 3 dX5_walkSpares_20 rfl ?_
  refine x_iload_n 1 dX5_walkSpares_22 rfl rfl ?_
  exact x_icmp_eq 66 dX5_walkSpares_23 (by decide) (fun h => x_sub [1, 3] rfl (K1 h)) (fun h => K2 h)
theorem bX5_walkSpares_26 {I : Nat → Nat → Int32} {L : Nat → Int64} {Q : Option Value → (Nat → Nat → Int32) → (Nat → Int64) → Prop} {v2 : Int32} {v4 : Int32} {v5 : Int32} {v6 : Int32} (hb1 : vp_in v5 8) (K1 : ((I 1152 (v5.toNatClampNeg)) = (-1 : Int32)) → XS mX5_walkSpares 49 [] [] I L Q) (K2 : (¬ (I 1152 (v5.toNatClampNeg)) = (-1 : Int32)) → XS mX5_walkSpares 37 [(0, .ref 16), (2, .int v2), (4, .int v4), (5, .int v5), (6, .int v6)] [] I L Q) : XS mX5_walkSpares 26 [(0, .ref 16), (2, .int v2), (4, .int v4), (5, .int v5), (6, .int v6)] [] I L Q := by
  refine x_aload_n 0 dX5_walkSpares_26 rfl rfl ?_
  refine xs_getr dX5_walkSpares_27 fl_X5_15 sh_16 rfl rf_1026 ?_
  refine x_iload 3 dX5_walkSpares_30 rfl ?_
  refine xs_iald 1152 (v5.toNatClampNeg) dX5_walkSpares_32 sh_18 rfl rfl hb1 ?_
  refine x_iconst (v := (-1 : Int32)) dX5_walkSpares_33 (by decide) ?_
  exact x_icmp_eq 49 dX5_walkSpares_34 (by decide) (fun h => x_sub [] rfl (K1 h)) (fun h => K2 h)
theorem bX5_walkSpares_37 {I : Nat → Nat → Int32} {L : Nat → Int64} {Q : Option Value → (Nat → Nat → Int32) → (Nat → Int64) → Prop} {v2 : Int32} {v4 : Int32} {v5 : Int32} {v6 : Int32} (hb1 : vp_in v5 8) (K1 : (¬ (I 1216 (v5.toNatClampNeg)) = v4) → XS mX5_walkSpares 51 [(0, .ref 16), (2, .int v2), (4, .int v4), (5, .int v5), (6, .int v6)] [] I L Q) (K2 : ((I 1216 (v5.toNatClampNeg)) = v4) → XS mX5_walkSpares 49 [] [] I L Q) : XS mX5_walkSpares 37 [(0, .ref 16), (2, .int v2), (4, .int v4), (5, .int v5), (6, .int v6)] [] I L Q := by
  refine x_aload_n 0 dX5_walkSpares_37 rfl rfl ?_
  refine xs_getr dX5_walkSpares_38 fl_X5_18 sh_16 rfl rf_1027 ?_
  refine x_iload 3 dX5_walkSpares_41 rfl ?_
  refine xs_iald 1216 (v5.toNatClampNeg) dX5_walkSpares_43 sh_19 rfl rfl hb1 ?_
  refine x_iload 2 dX5_walkSpares_44 rfl ?_
  exact x_icmp_ne 51 dX5_walkSpares_46 (by decide) (fun h => K1 h) (fun h => x_sub [] rfl (K2 h))
theorem bX5_walkSpares_49 {I : Nat → Nat → Int32} {L : Nat → Int64} {Q : Option Value → (Nat → Nat → Int32) → (Nat → Int64) → Prop}   (K : Q (some (.int (0 : Int32))) I L) : XS mX5_walkSpares 49 [] [] I L Q := by
  refine x_iconst (v := (0 : Int32)) dX5_walkSpares_49 (by decide) ?_
  exact xs_iret dX5_walkSpares_50 rfl (x_nar _ (Or.inl rfl)) K
theorem bX5_walkSpares_51 {I : Nat → Nat → Int32} {L : Nat → Int64} {Q : Option Value → (Nat → Nat → Int32) → (Nat → Int64) → Prop} {v2 : Int32} {v4 : Int32} {v5 : Int32} {v6 : Int32} (hb1 : vp_in v5 8) (K : XS mX5_walkSpares 13 [(0, .ref 16), (2, .int v2), (4, .int v4), (5, .int (I 1152 (v5.toNatClampNeg))), (6, .int (v6 + (1 : Int32)))] [] I L Q) : XS mX5_walkSpares 51 [(0, .ref 16), (2, .int v2), (4, .int v4), (5, .int v5), (6, .int v6)] [] I L Q := by
  refine x_aload_n 0 dX5_walkSpares_51 rfl rfl ?_
  refine xs_getr dX5_walkSpares_52 fl_X5_15 sh_16 rfl rf_1026 ?_
  refine x_iload 3 dX5_walkSpares_55 rfl ?_
  refine xs_iald 1152 (v5.toNatClampNeg) dX5_walkSpares_57 sh_18 rfl rfl hb1 ?_
  refine x_istore [(0, .ref 16), (2, .int v2), (4, .int v4), (5, .int (I 1152 (v5.toNatClampNeg))), (6, .int v6)] dX5_walkSpares_58 (Nat.le_of_ble_eq_true rfl) rfl ?_
  refine x_iinc 4 (v6 + (1 : Int32)) [(0, .ref 16), (2, .int v2), (4, .int v4), (5, .int (I 1152 (v5.toNatClampNeg))), (6, .int (v6 + (1 : Int32)))] dX5_walkSpares_60 rfl rfl (Nat.le_of_ble_eq_true rfl) rfl ?_
  exact x_goto 13 dX5_walkSpares_63 (by decide) (K)
theorem bX5_walkSpares_66 {I : Nat → Nat → Int32} {L : Nat → Int64} {Q : Option Value → (Nat → Nat → Int32) → (Nat → Int64) → Prop} {v2 : Int32} {v5 : Int32}  (K1 : (¬ v5 = v2) → XS mX5_walkSpares 76 [] [] I L Q) (K2 : (v5 = v2) → XS mX5_walkSpares 72 [] [] I L Q) : XS mX5_walkSpares 66 [(2, .int v2), (5, .int v5)] [] I L Q := by
  refine x_iload 1 dX5_walkSpares_66 rfl ?_
  refine x_iload_n 0 dX5_walkSpares_68 rfl rfl ?_
  exact x_icmp_ne 76 dX5_walkSpares_69 (by decide) (fun h => x_sub [] rfl (K1 h)) (fun h => x_sub [] rfl (K2 h))
theorem bX5_walkSpares_72 {I : Nat → Nat → Int32} {L : Nat → Int64} {Q : Option Value → (Nat → Nat → Int32) → (Nat → Int64) → Prop}   (K : XS mX5_walkSpares 77 [] [.int (1 : Int32)] I L Q) : XS mX5_walkSpares 72 [] [] I L Q := by
  refine x_iconst (v := (1 : Int32)) dX5_walkSpares_72 (by decide) ?_
  exact x_goto 77 dX5_walkSpares_73 (by decide) (K)
theorem bX5_walkSpares_76 {I : Nat → Nat → Int32} {L : Nat → Int64} {Q : Option Value → (Nat → Nat → Int32) → (Nat → Int64) → Prop}   (K : XS mX5_walkSpares 77 [] [.int (0 : Int32)] I L Q) : XS mX5_walkSpares 76 [] [] I L Q := by
  refine x_iconst (v := (0 : Int32)) dX5_walkSpares_76 (by decide) ?_
  exact K
theorem bX5_walkSpares_77 {I : Nat → Nat → Int32} {L : Nat → Int64} {Q : Option Value → (Nat → Nat → Int32) → (Nat → Int64) → Prop} {s0 : Int32} (hz1 : s0 = 0 ∨ s0 = 1) (K : Q (some (.int s0)) I L) : XS mX5_walkSpares 77 [] [.int s0] I L Q := by
  exact xs_iret dX5_walkSpares_77 rfl (x_nar _ hz1) K
theorem bX5_findWalk_0 {I : Nat → Nat → Int32} {L : Nat → Int64} {Q : Option Value → (Nat → Nat → Int32) → (Nat → Int64) → Prop} {v1 : Int32} {v2 : Int32} {v3 : Int32} {a4 : Nat}  (K : XS mX5_measure 0 [(0, .ref 16), (1, .int v2), (2, .int (0 : Int32)), (3, .int v3)] [] I L (fun r I' L' => XS mX5_findWalk 7 [(0, .ref 16), (1, .int v1), (2, .int v2), (4, .ref a4)] (r.toList ++ []) I' L' Q)) : XS mX5_findWalk 0 [(0, .ref 16), (1, .int v1), (2, .int v2), (3, .int v3), (4, .ref a4)] [] I L Q := by
  refine x_aload_n 0 dX5_findWalk_0 rfl rfl ?_
  refine x_iload_n 2 dX5_findWalk_1 rfl rfl ?_
  refine x_iconst (v := (0 : Int32)) dX5_findWalk_2 (by decide) ?_
  refine x_iload_n 3 dX5_findWalk_3 rfl rfl ?_
  refine x_sub [0, 1, 2, 4] rfl ?_
  exact xs_callV mX5_measure [.int v2, .int (0 : Int32), .int v3] [] 16 5 3 _ rfl dX5_findWalk_4 ml_X5_58 qX5_measure rfl ⟨Nat.le_of_ble_eq_true rfl, Nat.le_of_ble_eq_true rfl⟩ ⟨rfl, rfl⟩ (Nat.le_of_ble_eq_true rfl) sh_16 (by decide) rfl (Nat.le_of_ble_eq_true rfl) (K)
theorem bX5_findWalk_7 {I : Nat → Nat → Int32} {L : Nat → Int64} {Q : Option Value → (Nat → Nat → Int32) → (Nat → Int64) → Prop} {v1 : Int32} {v2 : Int32} {a4 : Nat} (hs_a4 : x_SH[a4]? = some (0, 6)) (K : XS mX6_put 0 [(0, .ref a4), (1, .int v1)] [] (x_up I (64 * a4 + 1) 0 (0 : Int32)) L (fun r I' L' => XS mX5_findWalk 19 [(0, .ref 16), (1, .int v1), (2, .int v2), (4, .ref a4)] (r.toList ++ []) I' L' Q)) : XS mX5_findWalk 7 [(0, .ref 16), (1, .int v1), (2, .int v2), (4, .ref a4)] [] I L Q := by
  refine x_aload 3 dX5_findWalk_7 rfl ?_
  refine x_iconst (v := (0 : Int32)) dX5_findWalk_9 (by decide) ?_
  refine xs_puti (64 * a4 + 1) dX5_findWalk_10 fl_X5_61 hs_a4 rfl rfl rfl ?_
  refine x_aload 3 dX5_findWalk_13 rfl ?_
  refine x_iload_n 1 dX5_findWalk_15 rfl rfl ?_
  exact xs_callV mX6_put [.int v1] [] a4 6 1 _ rfl dX5_findWalk_16 ml_X5_66 qX6_put rfl ⟨Nat.le_of_ble_eq_true rfl, Nat.le_of_ble_eq_true rfl⟩ ⟨rfl, rfl⟩ (Nat.le_of_ble_eq_true rfl) hs_a4 (by decide) rfl (Nat.le_of_ble_eq_true rfl) (K)
theorem bX5_findWalk_19 {I : Nat → Nat → Int32} {L : Nat → Int64} {Q : Option Value → (Nat → Nat → Int32) → (Nat → Int64) → Prop} {v1 : Int32} {v2 : Int32} {a4 : Nat}  (K : XS mX5_findWalk 25 [(0, .ref 16), (2, .int v2), (4, .ref a4), (5, .int v1), (6, .int (0 : Int32))] [] I L Q) : XS mX5_findWalk 19 [(0, .ref 16), (1, .int v1), (2, .int v2), (4, .ref a4)] [] I L Q := by
  refine x_iload_n 1 dX5_findWalk_19 rfl rfl ?_
  refine x_istore [(0, .ref 16), (1, .int v1), (2, .int v2), (4, .ref a4), (5, .int v1)] dX5_findWalk_20 (Nat.le_of_ble_eq_true rfl) rfl ?_
  refine x_iconst (v := (0 : Int32)) dX5_findWalk_22 (by decide) ?_
  refine x_istore [(0, .ref 16), (1, .int v1), (2, .int v2), (4, .ref a4), (5, .int v1), (6, .int (0 : Int32))] dX5_findWalk_23 (Nat.le_of_ble_eq_true rfl) rfl ?_
  exact x_sub [0, 2, 3, 4, 5] rfl (K)
theorem bX5_findWalk_25 {I : Nat → Nat → Int32} {L : Nat → Int64} {Q : Option Value → (Nat → Nat → Int32) → (Nat → Int64) → Prop} {v2 : Int32} {a4 : Nat} {v5 : Int32} {v6 : Int32}  (K1 : ((8 : Int32) ≤ v6) → XS mX5_findWalk 73 [(2, .int v2), (5, .int v5)] [] I L Q) (K2 : (¬ (8 : Int32) ≤ v6) → XS mX5_findWalk 32 [(0, .ref 16), (2, .int v2), (4, .ref a4), (5, .int v5), (6, .int v6)] [] I L Q) : XS mX5_findWalk 25 [(0, .ref 16), (2, .int v2), (4, .ref a4), (5, .int v5), (6, .int v6)] [] I L Q := by
  refine x_iload 4 dX5_findWalk_25 rfl ?_
  refine x_bipush (v := (8 : Int32)) dX5_findWalk_27 (by decide) ?_
  exact x_icmp_ge 73 dX5_findWalk_29 (by decide) (fun h => x_sub [1, 3] rfl (K1 h)) (fun h => K2 h)
theorem bX5_findWalk_32 {I : Nat → Nat → Int32} {L : Nat → Int64} {Q : Option Value → (Nat → Nat → Int32) → (Nat → Int64) → Prop} {v2 : Int32} {a4 : Nat} {v5 : Int32} {v6 : Int32}  (K1 : (v5 = v2) → XS mX5_findWalk 73 [(2, .int v2), (5, .int v5)] [] I L Q) (K2 : (¬ v5 = v2) → XS mX5_findWalk 38 [(0, .ref 16), (2, .int v2), (4, .ref a4), (5, .int v5), (6, .int v6)] [] I L Q) : XS mX5_findWalk 32 [(0, .ref 16), (2, .int v2), (4, .ref a4), (5, .int v5), (6, .int v6)] [] I L Q := by
  refine x_iload 3 dX5_findWalk_32 rfl ?_
  refine x_iload_n 1 dX5_findWalk_34 rfl rfl ?_
  exact x_icmp_eq 73 dX5_findWalk_35 (by decide) (fun h => x_sub [1, 3] rfl (K1 h)) (fun h => K2 h)
theorem bX5_findWalk_38 {I : Nat → Nat → Int32} {L : Nat → Int64} {Q : Option Value → (Nat → Nat → Int32) → (Nat → Int64) → Prop} {v2 : Int32} {a4 : Nat} {v5 : Int32} {v6 : Int32} (hb1 : vp_in v5 8) (K1 : (¬ (I 1152 (v5.toNatClampNeg)) = (-1 : Int32)) → XS mX5_findWalk 51 [(0, .ref 16), (2, .int v2), (4, .ref a4), (5, .int v5), (6, .int v6)] [] I L Q) (K2 : ((I 1152 (v5.toNatClampNeg)) = (-1 : Int32)) → XS mX5_findWalk 49 [] [] I L Q) : XS mX5_findWalk 38 [(0, .ref 16), (2, .int v2), (4, .ref a4), (5, .int v5), (6, .int v6)] [] I L Q := by
  refine x_aload_n 0 dX5_findWalk_38 rfl rfl ?_
  refine xs_getr dX5_findWalk_39 fl_X5_15 sh_16 rfl rf_1026 ?_
  refine x_iload 3 dX5_findWalk_42 rfl ?_
  refine xs_iald 1152 (v5.toNatClampNeg) dX5_findWalk_44 sh_18 rfl rfl hb1 ?_
  refine x_iconst (v := (-1 : Int32)) dX5_findWalk_45 (by decide) ?_
  exact x_icmp_ne 51 dX5_findWalk_46 (by decide) (fun h => K1 h) (fun h => x_sub [] rfl (K2 h))
theorem bX5_findWalk_49 {I : Nat → Nat → Int32} {L : Nat → Int64} {Q : Option Value → (Nat → Nat → Int32) → (Nat → Int64) → Prop}   (K : Q (some (.int (0 : Int32))) I L) : XS mX5_findWalk 49 [] [] I L Q := by
  refine x_iconst (v := (0 : Int32)) dX5_findWalk_49 (by decide) ?_
  exact xs_iret dX5_findWalk_50 rfl (x_nar _ (Or.inl rfl)) K
theorem bX5_findWalk_51 {I : Nat → Nat → Int32} {L : Nat → Int64} {Q : Option Value → (Nat → Nat → Int32) → (Nat → Int64) → Prop} {v2 : Int32} {a4 : Nat} {v5 : Int32} {v6 : Int32} (hb1 : vp_in v5 8) (hs_a4 : x_SH[a4]? = some (0, 6)) (K : XS mX6_put 0 [(0, .ref a4), (1, .int (I 1152 (v5.toNatClampNeg)))] [] I L (fun r I' L' => XS mX5_findWalk 67 [(0, .ref 16), (2, .int v2), (4, .ref a4), (5, .int (I 1152 (v5.toNatClampNeg))), (6, .int v6)] (r.toList ++ []) I' L' Q)) : XS mX5_findWalk 51 [(0, .ref 16), (2, .int v2), (4, .ref a4), (5, .int v5), (6, .int v6)] [] I L Q := by
  refine x_aload_n 0 dX5_findWalk_51 rfl rfl ?_
  refine xs_getr dX5_findWalk_52 fl_X5_15 sh_16 rfl rf_1026 ?_
  refine x_iload 3 dX5_findWalk_55 rfl ?_
  refine xs_iald 1152 (v5.toNatClampNeg) dX5_findWalk_57 sh_18 rfl rfl hb1 ?_
  refine x_istore [(0, .ref 16), (2, .int v2), (4, .ref a4), (5, .int (I 1152 (v5.toNatClampNeg))), (6, .int v6)] dX5_findWalk_58 (Nat.le_of_ble_eq_true rfl) rfl ?_
  refine x_aload 2 dX5_findWalk_60 rfl ?_
  refine x_iload 3 dX5_findWalk_62 rfl ?_
  exact xs_callV mX6_put [.int (I 1152 (v5.toNatClampNeg))] [] a4 6 1 _ rfl dX5_findWalk_64 ml_X5_66 qX6_put rfl ⟨Nat.le_of_ble_eq_true rfl, Nat.le_of_ble_eq_true rfl⟩ ⟨rfl, rfl⟩ (Nat.le_of_ble_eq_true rfl) hs_a4 (by decide) rfl (Nat.le_of_ble_eq_true rfl) (K)
theorem bX5_findWalk_67 {I : Nat → Nat → Int32} {L : Nat → Int64} {Q : Option Value → (Nat → Nat → Int32) → (Nat → Int64) → Prop} {v2 : Int32} {a4 : Nat} {v5 : Int32} {v6 : Int32}  (K : XS mX5_findWalk 25 [(0, .ref 16), (2, .int v2), (4, .ref a4), (5, .int v5), (6, .int (v6 + (1 : Int32)))] [] I L Q) : XS mX5_findWalk 67 [(0, .ref 16), (2, .int v2), (4, .ref a4), (5, .int v5), (6, .int v6)] [] I L Q := by
  refine x_iinc 4 (v6 + (1 : Int32)) [(0, .ref 16), (2, .int v2), (4, .ref a4), (5, .int v5), (6, .int (v6 + (1 : Int32)))] dX5_findWalk_67 rfl rfl (Nat.le_of_ble_eq_true rfl) rfl ?_
  exact x_goto 25 dX5_findWalk_70 (by decide) (K)
theorem bX5_findWalk_73 {I : Nat → Nat → Int32} {L : Nat → Int64} {Q : Option Value → (Nat → Nat → Int32) → (Nat → Int64) → Prop} {v2 : Int32} {v5 : Int32}  (K1 : (¬ v5 = v2) → XS mX5_findWalk 83 [] [] I L Q) (K2 : (v5 = v2) → XS mX5_findWalk 79 [] [] I L Q) : XS mX5_findWalk 73 [(2, .int v2), (5, .int v5)] [] I L Q := by
  refine x_iload 1 dX5_findWalk_73 rfl ?_
  refine x_iload_n 0 dX5_findWalk_75 rfl rfl ?_
  exact x_icmp_ne 83 dX5_findWalk_76 (by decide) (fun h => x_sub [] rfl (K1 h)) (fun h => x_sub [] rfl (K2 h))
theorem bX5_findWalk_79 {I : Nat → Nat → Int32} {L : Nat → Int64} {Q : Option Value → (Nat → Nat → Int32) → (Nat → Int64) → Prop}   (K : XS mX5_findWalk 84 [] [.int (1 : Int32)] I L Q) : XS mX5_findWalk 79 [] [] I L Q := by
  refine x_iconst (v := (1 : Int32)) dX5_findWalk_79 (by decide) ?_
  exact x_goto 84 dX5_findWalk_80 (by decide) (K)
theorem bX5_findWalk_83 {I : Nat → Nat → Int32} {L : Nat → Int64} {Q : Option Value → (Nat → Nat → Int32) → (Nat → Int64) → Prop}   (K : XS mX5_findWalk 84 [] [.int (0 : Int32)] I L Q) : XS mX5_findWalk 83 [] [] I L Q := by
  refine x_iconst (v := (0 : Int32)) dX5_findWalk_83 (by decide) ?_
  exact K
theorem bX5_findWalk_84 {I : Nat → Nat → Int32} {L : Nat → Int64} {Q : Option Value → (Nat → Nat → Int32) → (Nat → Int64) → Prop} {s0 : Int32} (hz1 : s0 = 0 ∨ s0 = 1) (K : Q (some (.int s0)) I L) : XS mX5_findWalk 84 [] [.int s0] I L Q := by
  exact xs_iret dX5_findWalk_84 rfl (x_nar _ hz1) K
