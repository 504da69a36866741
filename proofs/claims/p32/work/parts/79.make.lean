/-! ===== the constructors ===== -/
abbrev kSH (n : Nat) : List (Nat × Nat) := x_SH.take n
def kR_0 : Nat → Option Nat := fun _ => none
def kR_1 : Nat → Option Nat := x_upR kR_0 67 (some 2)
def kR_2 : Nat → Option Nat := x_upR kR_1 68 (some 3)
def kR_3 : Nat → Option Nat := x_upR kR_2 69 (some 4)
def kR_4 : Nat → Option Nat := x_upR kR_3 70 (some 5)
def kR_5 : Nat → Option Nat := x_upR kR_4 71 (some 6)
def kR_6 : Nat → Option Nat := x_upR kR_5 72 (some 7)
def kR_7 : Nat → Option Nat := x_upR kR_6 0 (some 1)
def kR_8 : Nat → Option Nat := x_upR kR_7 513 (some 9)
def kR_9 : Nat → Option Nat := x_upR kR_8 516 (some 10)
def kR_10 : Nat → Option Nat := x_upR kR_9 512 (some 1)
def kR_11 : Nat → Option Nat := x_upR kR_10 1 (some 8)
def kR_12 : Nat → Option Nat := x_upR kR_11 705 (some 12)
def kR_13 : Nat → Option Nat := x_upR kR_12 706 (some 13)
def kR_14 : Nat → Option Nat := x_upR kR_13 707 (some 14)
def kR_15 : Nat → Option Nat := x_upR kR_14 708 (some 15)
def kR_16 : Nat → Option Nat := x_upR kR_15 704 (some 1)
def kR_17 : Nat → Option Nat := x_upR kR_16 2 (some 11)
def kR_18 : Nat → Option Nat := x_upR kR_17 1025 (some 17)
def kR_19 : Nat → Option Nat := x_upR kR_18 1026 (some 18)
def kR_20 : Nat → Option Nat := x_upR kR_19 1027 (some 19)
def kR_21 : Nat → Option Nat := x_upR kR_20 1024 (some 1)
def kR_22 : Nat → Option Nat := x_upR kR_21 3 (some 16)
def kR_23 : Nat → Option Nat := x_upR kR_22 1282 (some 21)
def kR_24 : Nat → Option Nat := x_upR kR_23 1283 (some 22)
def kR_25 : Nat → Option Nat := x_upR kR_24 1284 (some 23)
def kR_26 : Nat → Option Nat := x_upR kR_25 1536 (some 25)
def kR_27 : Nat → Option Nat := x_upR kR_26 1285 (some 24)
def kR_28 : Nat → Option Nat := x_upR kR_27 1280 (some 1)
def kR_29 : Nat → Option Nat := x_upR kR_28 1281 (some 16)
def kR_30 : Nat → Option Nat := x_upR kR_29 4 (some 20)
def kR_31 : Nat → Option Nat := x_upR kR_30 1664 (some 27)
def kR_32 : Nat → Option Nat := x_upR kR_31 1665 (some 28)
def kR_33 : Nat → Option Nat := x_upR kR_32 5 (some 26)
def kR_34 : Nat → Option Nat := x_upR kR_33 1856 (some 30)
def kR_35 : Nat → Option Nat := x_upR kR_34 6 (some 29)
def kR_36 : Nat → Option Nat := x_upR kR_35 2048 (some 33)
def kR_37 : Nat → Option Nat := x_upR kR_36 1986 (some 32)
def kR_38 : Nat → Option Nat := x_upR kR_37 1987 (some 34)
def kR_39 : Nat → Option Nat := x_upR kR_38 1988 (some 35)
def kR_40 : Nat → Option Nat := x_upR kR_39 1989 (some 36)
def kR_41 : Nat → Option Nat := x_upR kR_40 1990 (some 37)
def kR_42 : Nat → Option Nat := x_upR kR_41 1991 (some 38)
def kR_43 : Nat → Option Nat := x_upR kR_42 1992 (some 39)
def kR_44 : Nat → Option Nat := x_upR kR_43 2560 (some 41)
def kR_45 : Nat → Option Nat := x_upR kR_44 2561 (some 42)
def kR_46 : Nat → Option Nat := x_upR kR_45 1993 (some 40)
def kR_47 : Nat → Option Nat := x_upR kR_46 1984 (some 1)
def kR_48 : Nat → Option Nat := x_upR kR_47 1985 (some 16)
def kR_49 : Nat → Option Nat := x_upR kR_48 7 (some 31)
def kR_50 : Nat → Option Nat := x_upR kR_49 2816 (some 45)
def kR_51 : Nat → Option Nat := x_upR kR_50 2817 (some 46)
def kR_52 : Nat → Option Nat := x_upR kR_51 2755 (some 44)
def kR_53 : Nat → Option Nat := x_upR kR_52 3008 (some 48)
def kR_54 : Nat → Option Nat := x_upR kR_53 2756 (some 47)
def kR_55 : Nat → Option Nat := x_upR kR_54 2752 (some 1)
def kR_56 : Nat → Option Nat := x_upR kR_55 2753 (some 16)
def kR_57 : Nat → Option Nat := x_upR kR_56 2754 (some 31)
def kR_58 : Nat → Option Nat := x_upR kR_57 8 (some 43)
theorem kR_end : kR_58 = x_RF := rfl
theorem xk_new {scr : Option (Nat × (Nat → Int32))} {m : x_Mth} {pc : Nat} {ls : List (Nat × Value)} {st : List Value} {sh : List (Nat × Nat)} {I : Nat → Nat → Int32} {L : Nat → Int64} {R : Nat → Option Nat} {Q : Option Value → x_M → Prop} {idx : Nat} (ci n : Nat) (u u' : Nat × Nat) (sh' : List (Nat × Nat)) (hd : decode (x_code m) pc = .ok (.new idx, 3)) (hci : ci < 10) (hw : Cond.classLink (x_own m) idx (x_R ci) ∈ x_GW) (hi : Cond.instantiable (x_R ci) (x_N ci) ∈ x_GW ∧ Cond.initialized (x_R ci) ∈ x_GW)
    (hn : sh.length = n) (hu : (u.1 + 1, u.2 + x_N ci) = u') (hsh : sh ++ [(0, ci)] = sh') (hc : u.1 + 1 ≤ x_mc m) (hs : u.2 + x_N ci ≤ x_ms m) (hlen : n + 1 < 1000000) (hst : st.all (x_ne n) = true) (hls : (ls.map (·.2)).all (x_ne n) = true)
    (K : X scr m u' (pc + 3) ls (.ref n :: st) (sh', I, L, R) Q) : X scr m u pc ls st (sh, I, L, R) Q := by
  subst hu; subst hsh
  exact x_new ci n hd hci hw hi hn hc hs hlen hst hls K
theorem xk_newa {scr : Option (Nat × (Nat → Int32))} {m : x_Mth} {pc : Nat} {ls : List (Nat × Value)} {st : List Value} {sh : List (Nat × Nat)} {I : Nat → Nat → Int32} {L : Nat → Int64} {R : Nat → Option Nat} {Q : Option Value → x_M → Prop} {atype : ArrayType} (t : Nat) (ht : (t = 1 ∧ atype = .int) ∨ (t = 2 ∧ atype = .boolean)) {z : Int32} (N n : Nat) (u u' : Nat × Nat) (sh' : List (Nat × Nat)) (hd : decode (x_code m) pc = .ok (.newarray atype, 2))
    (hn : sh.length = n) (hu : (u.1 + 1, u.2 + N) = u') (hsh : sh ++ [(t, N)] = sh') (hz : ¬ z < 0) (hN : z.toNatClampNeg = N) (hb2 : N * 4 ≤ 536870912) (hc : u.1 + 1 ≤ x_mc m) (hs : u.2 + N ≤ x_ms m) (hlen : n + 1 < 1000000) (hst : st.all (x_ne n) = true) (hls : (ls.map (·.2)).all (x_ne n) = true)
    (K : X scr m u' (pc + 2) ls (.ref n :: st) (sh', I, L, R) Q) : X scr m u pc ls (.int z :: st) (sh, I, L, R) Q := by
  subst hu; subst hsh
  exact x_newa t ht N n hd hn hz hN hb2 hc hs hlen hst hls K
theorem xk_puti {scr : Option (Nat × (Nat → Int32))} {m : x_Mth} {pc : Nat} {ls : List (Nat × Value)} {st : List Value} {sh : List (Nat × Nat)} {I : Nat → Nat → Int32} {L : Nat → Int64} {R : Nat → Option Nat} {Q : Option Value → x_M → Prop} {u : Nat × Nat} {idx : Nat} (ci j r : Nat) {b : Nat} {v : Int32} (hd : decode (x_code m) pc = .ok (.putfield idx, 3)) (hf : x_FL (x_own m) idx ci j) (ho : sh[b]? = some (0, ci)) (hty : x_ty ci j = .int) (hr : 64 * b + j = r)
    (hfin : (x_T ci j).2.2.2 = false ∨ ((x_y m).name = "<init>" ∧ x_R ci = x_own m)) (K : X scr m u (pc + 3) ls st (sh, x_up I r 0 v, L, R) Q) : X scr m u pc ls (.int v :: .ref b :: st) (sh, I, L, R) Q := by
  subst hr
  exact x_puti ci j hd hf ho hty hfin K
theorem xk_putz {scr : Option (Nat × (Nat → Int32))} {m : x_Mth} {pc : Nat} {ls : List (Nat × Value)} {st : List Value} {sh : List (Nat × Nat)} {I : Nat → Nat → Int32} {L : Nat → Int64} {R : Nat → Option Nat} {Q : Option Value → x_M → Prop} {u : Nat × Nat} {idx : Nat} (ci j r : Nat) {b : Nat} {v : Int32} (hd : decode (x_code m) pc = .ok (.putfield idx, 3)) (hf : x_FL (x_own m) idx ci j) (ho : sh[b]? = some (0, ci)) (hty : x_ty ci j = .boolean) (h01 : v = 0 ∨ v = 1) (hr : 64 * b + j = r)
    (hfin : (x_T ci j).2.2.2 = false ∨ ((x_y m).name = "<init>" ∧ x_R ci = x_own m)) (K : X scr m u (pc + 3) ls st (sh, x_up I r 0 v, L, R) Q) : X scr m u pc ls (.int v :: .ref b :: st) (sh, I, L, R) Q := by
  subst hr
  exact x_putz ci j hd hf ho hty h01 hfin K
theorem xk_putl {scr : Option (Nat × (Nat → Int32))} {m : x_Mth} {pc : Nat} {ls : List (Nat × Value)} {st : List Value} {sh : List (Nat × Nat)} {I : Nat → Nat → Int32} {L : Nat → Int64} {R : Nat → Option Nat} {Q : Option Value → x_M → Prop} {u : Nat × Nat} {idx : Nat} (ci j r : Nat) {b : Nat} {v : Int64} (hd : decode (x_code m) pc = .ok (.putfield idx, 3)) (hf : x_FL (x_own m) idx ci j) (ho : sh[b]? = some (0, ci)) (hty : x_ty ci j = .long) (hr : 64 * b + j = r)
    (hfin : (x_T ci j).2.2.2 = false ∨ ((x_y m).name = "<init>" ∧ x_R ci = x_own m)) (K : X scr m u (pc + 3) ls st (sh, I, x_upL L r v, R) Q) : X scr m u pc ls (.long v :: .ref b :: st) (sh, I, L, R) Q := by
  subst hr
  exact x_putl ci j hd hf ho hty hfin K
theorem xk_putr {scr : Option (Nat × (Nat → Int32))} {m : x_Mth} {pc : Nat} {ls : List (Nat × Value)} {st : List Value} {sh : List (Nat × Nat)} {I : Nat → Nat → Int32} {L : Nat → Int64} {R : Nat → Option Nat} {Q : Option Value → x_M → Prop} {u : Nat × Nat} {idx : Nat} (ci j r : Nat) (R' : Nat → Option Nat) {b k : Nat} (hd : decode (x_code m) pc = .ok (.putfield idx, 3)) (hf : x_FL (x_own m) idx ci j) (ho : sh[b]? = some (0, ci)) (hty : (∃ C, x_ty ci j = .object C) ∨ ∃ t, x_ty ci j = .array t) (hk : k < sh.length) (hr : 64 * b + j = r) (hR : x_upR R r (some k) = R')
    (hfin : (x_T ci j).2.2.2 = false ∨ ((x_y m).name = "<init>" ∧ x_R ci = x_own m)) (K : X scr m u (pc + 3) ls st (sh, I, L, R') Q) : X scr m u pc ls (.ref k :: .ref b :: st) (sh, I, L, R) Q := by
  subst hr; subst hR
  exact x_putr ci j hd hf ho hty hk hfin K
theorem xk_getr {scr : Option (Nat × (Nat → Int32))} {m : x_Mth} {pc : Nat} {ls : List (Nat × Value)} {st : List Value} {sh : List (Nat × Nat)} {I : Nat → Nat → Int32} {L : Nat → Int64} {R : Nat → Option Nat} {Q : Option Value → x_M → Prop} {u : Nat × Nat} {idx : Nat} (ci j : Nat) {b k : Nat} (hd : decode (x_code m) pc = .ok (.getfield idx, 3)) (hf : x_FL (x_own m) idx ci j) (ho : sh[b]? = some (0, ci)) (hty : x_isref (x_ty ci j) = true) (hR : R (64 * b + j) = some k)
    (K : X scr m u (pc + 3) ls (.ref k :: st) (sh, I, L, R) Q) : X scr m u pc ls (.ref b :: st) (sh, I, L, R) Q := by
  refine x_getf ci j _ hd hf ho ?_ K
  cases h : x_ty ci j <;> rw [h] at hty <;> simp [x_isref] at hty <;> simp [x_fa, hR]
theorem kc_1_X2_init {I : Nat → Nat → Int32} {L : Nat → Int64} {Q : Option Value → x_M → Prop} (K : Q none (kSH 8, (x_up (x_up (x_up I 64 0 (2 : Int32)) 65 0 (0 : Int32)) 66 0 (0 : Int32)), L, kR_6)) : X none mX2_init (0, 0) 0 [(0, .ref 1)] [] (kSH 2, I, L, kR_0) Q := by
  refine x_aload_n 0 dX2_init_0 rfl rfl ?_
  refine x_objInit dX2_init_1 ml_X2_3 (Nat.le_of_ble_eq_true rfl) (Nat.le_of_ble_eq_true rfl) ?_
  refine x_aload_n 0 dX2_init_4 rfl rfl ?_
  refine x_iconst (v := (2 : Int32)) dX2_init_5 (by decide) ?_
  refine xk_puti 2 0 64 dX2_init_6 fl_X2_9 rfl rfl rfl (Or.inl rfl) ?_
  refine x_aload_n 0 dX2_init_9 rfl rfl ?_
  refine x_iconst (v := (0 : Int32)) dX2_init_10 (by decide) ?_
  refine xk_puti 2 1 65 dX2_init_11 fl_X2_15 rfl rfl rfl (Or.inl rfl) ?_
  refine x_aload_n 0 dX2_init_14 rfl rfl ?_
  refine x_iconst (v := (0 : Int32)) dX2_init_15 (by decide) ?_
  refine xk_puti 2 2 66 dX2_init_16 fl_X2_18 rfl rfl rfl (Or.inl rfl) ?_
  refine x_aload_n 0 dX2_init_19 rfl rfl ?_
  refine x_bipush (v := (14 : Int32)) dX2_init_20 (by decide) ?_
  refine xk_newa 1 (Or.inl ⟨rfl, rfl⟩) 14 2 (0, 0) (1, 14) (kSH 3) dX2_init_22 rfl rfl rfl (by decide) (by decide) (Nat.le_of_ble_eq_true rfl) (Nat.le_of_ble_eq_true rfl) (Nat.le_of_ble_eq_true rfl) (Nat.le_of_ble_eq_true rfl) rfl rfl ?_
  refine xk_putr 2 3 67 kR_1 dX2_init_24 fl_X2_21 rfl (Or.inr ⟨_, rfl⟩) (Nat.le_of_ble_eq_true rfl) rfl rfl (Or.inr ⟨rfl, rfl⟩) ?_
  refine x_aload_n 0 dX2_init_27 rfl rfl ?_
  refine x_bipush (v := (14 : Int32)) dX2_init_28 (by decide) ?_
  refine xk_newa 1 (Or.inl ⟨rfl, rfl⟩) 14 3 (1, 14) (2, 28) (kSH 4) dX2_init_30 rfl rfl rfl (by decide) (by decide) (Nat.le_of_ble_eq_true rfl) (Nat.le_of_ble_eq_true rfl) (Nat.le_of_ble_eq_true rfl) (Nat.le_of_ble_eq_true rfl) rfl rfl ?_
  refine xk_putr 2 4 68 kR_2 dX2_init_32 fl_X2_25 rfl (Or.inr ⟨_, rfl⟩) (Nat.le_of_ble_eq_true rfl) rfl rfl (Or.inr ⟨rfl, rfl⟩) ?_
  refine x_aload_n 0 dX2_init_35 rfl rfl ?_
  refine x_bipush (v := (14 : Int32)) dX2_init_36 (by decide) ?_
  refine xk_newa 1 (Or.inl ⟨rfl, rfl⟩) 14 4 (2, 28) (3, 42) (kSH 5) dX2_init_38 rfl rfl rfl (by decide) (by decide) (Nat.le_of_ble_eq_true rfl) (Nat.le_of_ble_eq_true rfl) (Nat.le_of_ble_eq_true rfl) (Nat.le_of_ble_eq_true rfl) rfl rfl ?_
  refine xk_putr 2 5 69 kR_3 dX2_init_40 fl_X2_28 rfl (Or.inr ⟨_, rfl⟩) (Nat.le_of_ble_eq_true rfl) rfl rfl (Or.inr ⟨rfl, rfl⟩) ?_
  refine x_aload_n 0 dX2_init_43 rfl rfl ?_
  refine x_bipush (v := (14 : Int32)) dX2_init_44 (by decide) ?_
  refine xk_newa 1 (Or.inl ⟨rfl, rfl⟩) 14 5 (3, 42) (4, 56) (kSH 6) dX2_init_46 rfl rfl rfl (by decide) (by decide) (Nat.le_of_ble_eq_true rfl) (Nat.le_of_ble_eq_true rfl) (Nat.le_of_ble_eq_true rfl) (Nat.le_of_ble_eq_true rfl) rfl rfl ?_
  refine xk_putr 2 6 70 kR_4 dX2_init_48 fl_X2_31 rfl (Or.inr ⟨_, rfl⟩) (Nat.le_of_ble_eq_true rfl) rfl rfl (Or.inr ⟨rfl, rfl⟩) ?_
  refine x_aload_n 0 dX2_init_51 rfl rfl ?_
  refine x_bipush (v := (14 : Int32)) dX2_init_52 (by decide) ?_
  refine xk_newa 1 (Or.inl ⟨rfl, rfl⟩) 14 6 (4, 56) (5, 70) (kSH 7) dX2_init_54 rfl rfl rfl (by decide) (by decide) (Nat.le_of_ble_eq_true rfl) (Nat.le_of_ble_eq_true rfl) (Nat.le_of_ble_eq_true rfl) (Nat.le_of_ble_eq_true rfl) rfl rfl ?_
  refine xk_putr 2 7 71 kR_5 dX2_init_56 fl_X2_34 rfl (Or.inr ⟨_, rfl⟩) (Nat.le_of_ble_eq_true rfl) rfl rfl (Or.inr ⟨rfl, rfl⟩) ?_
  refine x_aload_n 0 dX2_init_59 rfl rfl ?_
  refine x_bipush (v := (8 : Int32)) dX2_init_60 (by decide) ?_
  refine xk_newa 1 (Or.inl ⟨rfl, rfl⟩) 8 7 (5, 70) (6, 78) (kSH 8) dX2_init_62 rfl rfl rfl (by decide) (by decide) (Nat.le_of_ble_eq_true rfl) (Nat.le_of_ble_eq_true rfl) (Nat.le_of_ble_eq_true rfl) (Nat.le_of_ble_eq_true rfl) rfl rfl ?_
  refine xk_putr 2 8 72 kR_6 dX2_init_64 fl_X2_37 rfl (Or.inr ⟨_, rfl⟩) (Nat.le_of_ble_eq_true rfl) rfl rfl (Or.inr ⟨rfl, rfl⟩) ?_
  exact x_end (st := []) dX2_init_67 rfl K
theorem kc_2_X8_init {I : Nat → Nat → Int32} {L : Nat → Int64} {Q : Option Value → x_M → Prop} (K : Q none (kSH 11, (x_up (x_up (x_up (x_up (x_up I 514 0 (0 : Int32)) 515 0 (0 : Int32)) 517 0 (0 : Int32)) 518 0 (0 : Int32)) 519 0 (0 : Int32)), (x_upL L 520 (0 : Int64)), kR_10)) : X none mX8_init (0, 0) 0 [(0, .ref 8), (1, .ref 1)] [] (kSH 9, I, L, kR_7) Q := by
  refine x_aload_n 0 dX8_init_0 rfl rfl ?_
  refine x_objInit dX8_init_1 ml_X8_3 (Nat.le_of_ble_eq_true rfl) (Nat.le_of_ble_eq_true rfl) ?_
  refine x_aload_n 0 dX8_init_4 rfl rfl ?_
  refine x_sipush (v := (200 : Int32)) dX8_init_5 (by decide) ?_
  refine xk_newa 1 (Or.inl ⟨rfl, rfl⟩) 200 9 (0, 0) (1, 200) (kSH 10) dX8_init_8 rfl rfl rfl (by decide) (by decide) (Nat.le_of_ble_eq_true rfl) (Nat.le_of_ble_eq_true rfl) (Nat.le_of_ble_eq_true rfl) (Nat.le_of_ble_eq_true rfl) rfl rfl ?_
  refine xk_putr 8 1 513 kR_8 dX8_init_10 fl_X8_9 rfl (Or.inr ⟨_, rfl⟩) (Nat.le_of_ble_eq_true rfl) rfl rfl (Or.inr ⟨rfl, rfl⟩) ?_
  refine x_aload_n 0 dX8_init_13 rfl rfl ?_
  refine x_iconst (v := (0 : Int32)) dX8_init_14 (by decide) ?_
  refine xk_puti 8 2 514 dX8_init_15 fl_X8_15 rfl rfl rfl (Or.inl rfl) ?_
  refine x_aload_n 0 dX8_init_18 rfl rfl ?_
  refine x_iconst (v := (0 : Int32)) dX8_init_19 (by decide) ?_
  refine xk_puti 8 3 515 dX8_init_20 fl_X8_19 rfl rfl rfl (Or.inl rfl) ?_
  refine x_aload_n 0 dX8_init_23 rfl rfl ?_
  refine x_bipush (v := (96 : Int32)) dX8_init_24 (by decide) ?_
  refine xk_newa 1 (Or.inl ⟨rfl, rfl⟩) 96 10 (1, 200) (2, 296) (kSH 11) dX8_init_26 rfl rfl rfl (by decide) (by decide) (Nat.le_of_ble_eq_true rfl) (Nat.le_of_ble_eq_true rfl) (Nat.le_of_ble_eq_true rfl) (Nat.le_of_ble_eq_true rfl) rfl rfl ?_
  refine xk_putr 8 4 516 kR_9 dX8_init_28 fl_X8_22 rfl (Or.inr ⟨_, rfl⟩) (Nat.le_of_ble_eq_true rfl) rfl rfl (Or.inr ⟨rfl, rfl⟩) ?_
  refine x_aload_n 0 dX8_init_31 rfl rfl ?_
  refine x_iconst (v := (0 : Int32)) dX8_init_32 (by decide) ?_
  refine xk_puti 8 5 517 dX8_init_33 fl_X8_25 rfl rfl rfl (Or.inl rfl) ?_
  refine x_aload_n 0 dX8_init_36 rfl rfl ?_
  refine x_iconst (v := (0 : Int32)) dX8_init_37 (by decide) ?_
  refine xk_puti 8 6 518 dX8_init_38 fl_X8_28 rfl rfl rfl (Or.inl rfl) ?_
  refine x_aload_n 0 dX8_init_41 rfl rfl ?_
  refine x_iconst (v := (0 : Int32)) dX8_init_42 (by decide) ?_
  refine xk_puti 8 7 519 dX8_init_43 fl_X8_31 rfl rfl rfl (Or.inl rfl) ?_
  refine x_aload_n 0 dX8_init_46 rfl rfl ?_
  refine x_lconst (v := (0 : Int64)) dX8_init_47 (by decide) ?_
  refine xk_putl 8 8 520 dX8_init_48 fl_X8_34 rfl rfl rfl (Or.inl rfl) ?_
  refine x_aload_n 0 dX8_init_51 rfl rfl ?_
  refine x_aload_n 1 dX8_init_52 rfl rfl ?_
  refine xk_putr 8 0 512 kR_10 dX8_init_53 fl_X8_38 rfl (Or.inl ⟨_, rfl⟩) (Nat.le_of_ble_eq_true rfl) rfl rfl (Or.inr ⟨rfl, rfl⟩) ?_
  exact x_end (st := []) dX8_init_56 rfl K
theorem kc_3_X3_init {I : Nat → Nat → Int32} {L : Nat → Int64} {Q : Option Value → x_M → Prop} (K : Q none (kSH 16, (x_up (x_up I 709 0 (0 : Int32)) 710 0 (0 : Int32)), L, kR_16)) : X none mX3_init (0, 0) 0 [(0, .ref 11), (1, .ref 1)] [] (kSH 12, I, L, kR_11) Q := by
  refine x_aload_n 0 dX3_init_0 rfl rfl ?_
  refine x_objInit dX3_init_1 ml_X3_3 (Nat.le_of_ble_eq_true rfl) (Nat.le_of_ble_eq_true rfl) ?_
  refine x_aload_n 0 dX3_init_4 rfl rfl ?_
  refine x_bipush (v := (8 : Int32)) dX3_init_5 (by decide) ?_
  refine xk_newa 1 (Or.inl ⟨rfl, rfl⟩) 8 12 (0, 0) (1, 8) (kSH 13) dX3_init_7 rfl rfl rfl (by decide) (by decide) (Nat.le_of_ble_eq_true rfl) (Nat.le_of_ble_eq_true rfl) (Nat.le_of_ble_eq_true rfl) (Nat.le_of_ble_eq_true rfl) rfl rfl ?_
  refine xk_putr 3 1 705 kR_12 dX3_init_9 fl_X3_9 rfl (Or.inr ⟨_, rfl⟩) (Nat.le_of_ble_eq_true rfl) rfl rfl (Or.inr ⟨rfl, rfl⟩) ?_
  refine x_aload_n 0 dX3_init_12 rfl rfl ?_
  refine x_bipush (v := (8 : Int32)) dX3_init_13 (by decide) ?_
  refine xk_newa 1 (Or.inl ⟨rfl, rfl⟩) 8 13 (1, 8) (2, 16) (kSH 14) dX3_init_15 rfl rfl rfl (by decide) (by decide) (Nat.le_of_ble_eq_true rfl) (Nat.le_of_ble_eq_true rfl) (Nat.le_of_ble_eq_true rfl) (Nat.le_of_ble_eq_true rfl) rfl rfl ?_
  refine xk_putr 3 2 706 kR_13 dX3_init_17 fl_X3_15 rfl (Or.inr ⟨_, rfl⟩) (Nat.le_of_ble_eq_true rfl) rfl rfl (Or.inr ⟨rfl, rfl⟩) ?_
  refine x_aload_n 0 dX3_init_20 rfl rfl ?_
  refine x_bipush (v := (8 : Int32)) dX3_init_21 (by decide) ?_
  refine xk_newa 1 (Or.inl ⟨rfl, rfl⟩) 8 14 (2, 16) (3, 24) (kSH 15) dX3_init_23 rfl rfl rfl (by decide) (by decide) (Nat.le_of_ble_eq_true rfl) (Nat.le_of_ble_eq_true rfl) (Nat.le_of_ble_eq_true rfl) (Nat.le_of_ble_eq_true rfl) rfl rfl ?_
  refine xk_putr 3 3 707 kR_14 dX3_init_25 fl_X3_18 rfl (Or.inr ⟨_, rfl⟩) (Nat.le_of_ble_eq_true rfl) rfl rfl (Or.inr ⟨rfl, rfl⟩) ?_
  refine x_aload_n 0 dX3_init_28 rfl rfl ?_
  refine x_bipush (v := (8 : Int32)) dX3_init_29 (by decide) ?_
  refine xk_newa 1 (Or.inl ⟨rfl, rfl⟩) 8 15 (3, 24) (4, 32) (kSH 16) dX3_init_31 rfl rfl rfl (by decide) (by decide) (Nat.le_of_ble_eq_true rfl) (Nat.le_of_ble_eq_true rfl) (Nat.le_of_ble_eq_true rfl) (Nat.le_of_ble_eq_true rfl) rfl rfl ?_
  refine xk_putr 3 4 708 kR_15 dX3_init_33 fl_X3_21 rfl (Or.inr ⟨_, rfl⟩) (Nat.le_of_ble_eq_true rfl) rfl rfl (Or.inr ⟨rfl, rfl⟩) ?_
  refine x_aload_n 0 dX3_init_36 rfl rfl ?_
  refine x_iconst (v := (0 : Int32)) dX3_init_37 (by decide) ?_
  refine xk_puti 3 5 709 dX3_init_38 fl_X3_24 rfl rfl rfl (Or.inl rfl) ?_
  refine x_aload_n 0 dX3_init_41 rfl rfl ?_
  refine x_iconst (v := (0 : Int32)) dX3_init_42 (by decide) ?_
  refine xk_puti 3 6 710 dX3_init_43 fl_X3_28 rfl rfl rfl (Or.inl rfl) ?_
  refine x_aload_n 0 dX3_init_46 rfl rfl ?_
  refine x_aload_n 1 dX3_init_47 rfl rfl ?_
  refine xk_putr 3 0 704 kR_16 dX3_init_48 fl_X3_31 rfl (Or.inl ⟨_, rfl⟩) (Nat.le_of_ble_eq_true rfl) rfl rfl (Or.inr ⟨rfl, rfl⟩) ?_
  exact x_end (st := []) dX3_init_51 rfl K
theorem kc_4_X5_init {I : Nat → Nat → Int32} {L : Nat → Int64} {Q : Option Value → x_M → Prop} (K : Q none (kSH 20, I, L, kR_21)) : X none mX5_init (0, 0) 0 [(0, .ref 16), (1, .ref 1)] [] (kSH 17, I, L, kR_17) Q := by
  refine x_aload_n 0 dX5_init_0 rfl rfl ?_
  refine x_objInit dX5_init_1 ml_X5_3 (Nat.le_of_ble_eq_true rfl) (Nat.le_of_ble_eq_true rfl) ?_
  refine x_aload_n 0 dX5_init_4 rfl rfl ?_
  refine x_bipush (v := (8 : Int32)) dX5_init_5 (by decide) ?_
  refine xk_newa 1 (Or.inl ⟨rfl, rfl⟩) 8 17 (0, 0) (1, 8) (kSH 18) dX5_init_7 rfl rfl rfl (by decide) (by decide) (Nat.le_of_ble_eq_true rfl) (Nat.le_of_ble_eq_true rfl) (Nat.le_of_ble_eq_true rfl) (Nat.le_of_ble_eq_true rfl) rfl rfl ?_
  refine xk_putr 5 1 1025 kR_18 dX5_init_9 fl_X5_9 rfl (Or.inr ⟨_, rfl⟩) (Nat.le_of_ble_eq_true rfl) rfl rfl (Or.inr ⟨rfl, rfl⟩) ?_
  refine x_aload_n 0 dX5_init_12 rfl rfl ?_
  refine x_bipush (v := (8 : Int32)) dX5_init_13 (by decide) ?_
  refine xk_newa 1 (Or.inl ⟨rfl, rfl⟩) 8 18 (1, 8) (2, 16) (kSH 19) dX5_init_15 rfl rfl rfl (by decide) (by decide) (Nat.le_of_ble_eq_true rfl) (Nat.le_of_ble_eq_true rfl) (Nat.le_of_ble_eq_true rfl) (Nat.le_of_ble_eq_true rfl) rfl rfl ?_
  refine xk_putr 5 2 1026 kR_19 dX5_init_17 fl_X5_15 rfl (Or.inr ⟨_, rfl⟩) (Nat.le_of_ble_eq_true rfl) rfl rfl (Or.inr ⟨rfl, rfl⟩) ?_
  refine x_aload_n 0 dX5_init_20 rfl rfl ?_
  refine x_bipush (v := (8 : Int32)) dX5_init_21 (by decide) ?_
  refine xk_newa 1 (Or.inl ⟨rfl, rfl⟩) 8 19 (2, 16) (3, 24) (kSH 20) dX5_init_23 rfl rfl rfl (by decide) (by decide) (Nat.le_of_ble_eq_true rfl) (Nat.le_of_ble_eq_true rfl) (Nat.le_of_ble_eq_true rfl) (Nat.le_of_ble_eq_true rfl) rfl rfl ?_
  refine xk_putr 5 3 1027 kR_20 dX5_init_25 fl_X5_18 rfl (Or.inr ⟨_, rfl⟩) (Nat.le_of_ble_eq_true rfl) rfl rfl (Or.inr ⟨rfl, rfl⟩) ?_
  refine x_aload_n 0 dX5_init_28 rfl rfl ?_
  refine x_aload_n 1 dX5_init_29 rfl rfl ?_
  refine xk_putr 5 0 1024 kR_21 dX5_init_30 fl_X5_21 rfl (Or.inl ⟨_, rfl⟩) (Nat.le_of_ble_eq_true rfl) rfl rfl (Or.inr ⟨rfl, rfl⟩) ?_
  exact x_end (st := []) dX5_init_33 rfl K
theorem kc_5_X6_init {I : Nat → Nat → Int32} {L : Nat → Int64} {Q : Option Value → x_M → Prop} (K : Q none (kSH 26, (x_up I 1537 0 (0 : Int32)), L, kR_26)) : X none mX6_init (0, 0) 0 [(0, .ref 24), (1, .int (8 : Int32))] [] (kSH 25, I, L, kR_25) Q := by
  refine x_aload_n 0 dX6_init_0 rfl rfl ?_
  refine x_objInit dX6_init_1 ml_X6_3 (Nat.le_of_ble_eq_true rfl) (Nat.le_of_ble_eq_true rfl) ?_
  refine x_aload_n 0 dX6_init_4 rfl rfl ?_
  refine x_iconst (v := (0 : Int32)) dX6_init_5 (by decide) ?_
  refine xk_puti 6 1 1537 dX6_init_6 fl_X6_9 rfl rfl rfl (Or.inl rfl) ?_
  refine x_aload_n 0 dX6_init_9 rfl rfl ?_
  refine x_iload_n 1 dX6_init_10 rfl rfl ?_
  refine x_iconst (v := (0 : Int32)) dX6_init_11 (by decide) ?_
  refine x_mathMax dX6_init_12 ml_X6_15 qm_max.1 qm_max.2.1 qm_max.2.2 (Nat.le_of_ble_eq_true rfl) (Nat.le_of_ble_eq_true rfl) ?_
  refine xk_newa 1 (Or.inl ⟨rfl, rfl⟩) 8 25 (0, 0) (1, 8) (kSH 26) dX6_init_15 rfl rfl rfl (by decide) (by decide) (Nat.le_of_ble_eq_true rfl) (Nat.le_of_ble_eq_true rfl) (Nat.le_of_ble_eq_true rfl) (Nat.le_of_ble_eq_true rfl) rfl rfl ?_
  refine xk_putr 6 0 1536 kR_26 dX6_init_17 fl_X6_21 rfl (Or.inr ⟨_, rfl⟩) (Nat.le_of_ble_eq_true rfl) rfl rfl (Or.inr ⟨rfl, rfl⟩) ?_
  exact x_end (st := []) dX6_init_20 rfl K
theorem kc_6_X4_init {I : Nat → Nat → Int32} {L : Nat → Int64} {Q : Option Value → x_M → Prop} (K : Q none (kSH 26, (x_up I 1537 0 (0 : Int32)), L, kR_29)) : X none mX4_init (0, 0) 0 [(0, .ref 20), (1, .ref 1), (2, .ref 16)] [] (kSH 21, I, L, kR_22) Q := by
  refine x_aload_n 0 dX4_init_0 rfl rfl ?_
  refine x_objInit dX4_init_1 ml_X4_3 (Nat.le_of_ble_eq_true rfl) (Nat.le_of_ble_eq_true rfl) ?_
  refine x_aload_n 0 dX4_init_4 rfl rfl ?_
  refine x_bipush (v := (64 : Int32)) dX4_init_5 (by decide) ?_
  refine xk_newa 1 (Or.inl ⟨rfl, rfl⟩) 64 21 (0, 0) (1, 64) (kSH 22) dX4_init_7 rfl rfl rfl (by decide) (by decide) (Nat.le_of_ble_eq_true rfl) (Nat.le_of_ble_eq_true rfl) (Nat.le_of_ble_eq_true rfl) (Nat.le_of_ble_eq_true rfl) rfl rfl ?_
  refine xk_putr 4 2 1282 kR_23 dX4_init_9 fl_X4_9 rfl (Or.inr ⟨_, rfl⟩) (Nat.le_of_ble_eq_true rfl) rfl rfl (Or.inr ⟨rfl, rfl⟩) ?_
  refine x_aload_n 0 dX4_init_12 rfl rfl ?_
  refine x_bipush (v := (64 : Int32)) dX4_init_13 (by decide) ?_
  refine xk_newa 1 (Or.inl ⟨rfl, rfl⟩) 64 22 (1, 64) (2, 128) (kSH 23) dX4_init_15 rfl rfl rfl (by decide) (by decide) (Nat.le_of_ble_eq_true rfl) (Nat.le_of_ble_eq_true rfl) (Nat.le_of_ble_eq_true rfl) (Nat.le_of_ble_eq_true rfl) rfl rfl ?_
  refine xk_putr 4 3 1283 kR_24 dX4_init_17 fl_X4_15 rfl (Or.inr ⟨_, rfl⟩) (Nat.le_of_ble_eq_true rfl) rfl rfl (Or.inr ⟨rfl, rfl⟩) ?_
  refine x_aload_n 0 dX4_init_20 rfl rfl ?_
  refine x_sipush (v := (256 : Int32)) dX4_init_21 (by decide) ?_
  refine xk_newa 2 (Or.inr ⟨rfl, rfl⟩) 256 23 (2, 128) (3, 384) (kSH 24) dX4_init_24 rfl rfl rfl (by decide) (by decide) (Nat.le_of_ble_eq_true rfl) (Nat.le_of_ble_eq_true rfl) (Nat.le_of_ble_eq_true rfl) (Nat.le_of_ble_eq_true rfl) rfl rfl ?_
  refine xk_putr 4 4 1284 kR_25 dX4_init_26 fl_X4_18 rfl (Or.inr ⟨_, rfl⟩) (Nat.le_of_ble_eq_true rfl) rfl rfl (Or.inr ⟨rfl, rfl⟩) ?_
  refine x_aload_n 0 dX4_init_29 rfl rfl ?_
  refine xk_new 6 24 (3, 384) (4, 386) (kSH 25) dX4_init_30 (by decide) cl_X4_22 x_ins6 rfl rfl rfl (Nat.le_of_ble_eq_true rfl) (Nat.le_of_ble_eq_true rfl) (Nat.le_of_ble_eq_true rfl) rfl rfl ?_
  refine x_dup dX4_init_33 rfl ?_
  refine x_bipush (v := (8 : Int32)) dX4_init_34 (by decide) ?_
  refine x_callC mX6_init [.int (8 : Int32)] [.ref 24, .ref 20] 24 1 _ rfl dX4_init_36 ml_X4_24 qX6_init rfl ⟨Nat.le_of_ble_eq_true rfl, Nat.le_of_ble_eq_true rfl⟩ ⟨Nat.le_of_ble_eq_true rfl, Nat.le_of_ble_eq_true rfl⟩ (Nat.le_of_ble_eq_true rfl) (Nat.le_of_ble_eq_true rfl) (Or.inr ⟨rfl, rfl⟩) (kc_5_X6_init ?_)
  show X none mX4_init (5, 407) 39 [(0, .ref 20), (1, .ref 1), (2, .ref 16)] [.ref 24, .ref 20] (kSH 26, (x_up I 1537 0 (0 : Int32)), L, kR_26) Q
  refine xk_putr 4 5 1285 kR_27 dX4_init_39 fl_X4_27 rfl (Or.inl ⟨_, rfl⟩) (Nat.le_of_ble_eq_true rfl) rfl rfl (Or.inr ⟨rfl, rfl⟩) ?_
  refine x_aload_n 0 dX4_init_42 rfl rfl ?_
  refine x_aload_n 1 dX4_init_43 rfl rfl ?_
  refine xk_putr 4 0 1280 kR_28 dX4_init_44 fl_X4_31 rfl (Or.inl ⟨_, rfl⟩) (Nat.le_of_ble_eq_true rfl) rfl rfl (Or.inr ⟨rfl, rfl⟩) ?_
  refine x_aload_n 0 dX4_init_47 rfl rfl ?_
  refine x_aload_n 2 dX4_init_48 rfl rfl ?_
  refine xk_putr 4 1 1281 kR_29 dX4_init_49 fl_X4_35 rfl (Or.inl ⟨_, rfl⟩) (Nat.le_of_ble_eq_true rfl) rfl rfl (Or.inr ⟨rfl, rfl⟩) ?_
  exact x_end (st := []) dX4_init_52 rfl K
theorem kc_7_X7_init {I : Nat → Nat → Int32} {L : Nat → Int64} {Q : Option Value → x_M → Prop} (K : Q none (kSH 29, (x_up I 1666 0 (0 : Int32)), L, kR_32)) : X none mX7_init (0, 0) 0 [(0, .ref 26), (1, .int (8 : Int32))] [] (kSH 27, I, L, kR_30) Q := by
  refine x_aload_n 0 dX7_init_0 rfl rfl ?_
  refine x_objInit dX7_init_1 ml_X7_3 (Nat.le_of_ble_eq_true rfl) (Nat.le_of_ble_eq_true rfl) ?_
  refine x_aload_n 0 dX7_init_4 rfl rfl ?_
  refine x_iconst (v := (0 : Int32)) dX7_init_5 (by decide) ?_
  refine xk_puti 7 2 1666 dX7_init_6 fl_X7_9 rfl rfl rfl (Or.inl rfl) ?_
  refine x_aload_n 0 dX7_init_9 rfl rfl ?_
  refine x_iload_n 1 dX7_init_10 rfl rfl ?_
  refine x_iconst (v := (0 : Int32)) dX7_init_11 (by decide) ?_
  refine x_mathMax dX7_init_12 ml_X7_15 qm_max.1 qm_max.2.1 qm_max.2.2 (Nat.le_of_ble_eq_true rfl) (Nat.le_of_ble_eq_true rfl) ?_
  refine xk_newa 1 (Or.inl ⟨rfl, rfl⟩) 8 27 (0, 0) (1, 8) (kSH 28) dX7_init_15 rfl rfl rfl (by decide) (by decide) (Nat.le_of_ble_eq_true rfl) (Nat.le_of_ble_eq_true rfl) (Nat.le_of_ble_eq_true rfl) (Nat.le_of_ble_eq_true rfl) rfl rfl ?_
  refine xk_putr 7 0 1664 kR_31 dX7_init_17 fl_X7_21 rfl (Or.inr ⟨_, rfl⟩) (Nat.le_of_ble_eq_true rfl) rfl rfl (Or.inr ⟨rfl, rfl⟩) ?_
  refine x_aload_n 0 dX7_init_20 rfl rfl ?_
  refine x_iload_n 1 dX7_init_21 rfl rfl ?_
  refine x_iconst (v := (0 : Int32)) dX7_init_22 (by decide) ?_
  refine x_mathMax dX7_init_23 ml_X7_15 qm_max.1 qm_max.2.1 qm_max.2.2 (Nat.le_of_ble_eq_true rfl) (Nat.le_of_ble_eq_true rfl) ?_
  refine xk_newa 1 (Or.inl ⟨rfl, rfl⟩) 8 28 (1, 8) (2, 16) (kSH 29) dX7_init_26 rfl rfl rfl (by decide) (by decide) (Nat.le_of_ble_eq_true rfl) (Nat.le_of_ble_eq_true rfl) (Nat.le_of_ble_eq_true rfl) (Nat.le_of_ble_eq_true rfl) rfl rfl ?_
  refine xk_putr 7 1 1665 kR_32 dX7_init_28 fl_X7_25 rfl (Or.inr ⟨_, rfl⟩) (Nat.le_of_ble_eq_true rfl) rfl rfl (Or.inr ⟨rfl, rfl⟩) ?_
  exact x_end (st := []) dX7_init_31 rfl K
theorem kc_8_X6_init {I : Nat → Nat → Int32} {L : Nat → Int64} {Q : Option Value → x_M → Prop} (K : Q none (kSH 31, (x_up I 1857 0 (0 : Int32)), L, kR_34)) : X none mX6_init (0, 0) 0 [(0, .ref 29), (1, .int (8 : Int32))] [] (kSH 30, I, L, kR_33) Q := by
  refine x_aload_n 0 dX6_init_0 rfl rfl ?_
  refine x_objInit dX6_init_1 ml_X6_3 (Nat.le_of_ble_eq_true rfl) (Nat.le_of_ble_eq_true rfl) ?_
  refine x_aload_n 0 dX6_init_4 rfl rfl ?_
  refine x_iconst (v := (0 : Int32)) dX6_init_5 (by decide) ?_
  refine xk_puti 6 1 1857 dX6_init_6 fl_X6_9 rfl rfl rfl (Or.inl rfl) ?_
  refine x_aload_n 0 dX6_init_9 rfl rfl ?_
  refine x_iload_n 1 dX6_init_10 rfl rfl ?_
  refine x_iconst (v := (0 : Int32)) dX6_init_11 (by decide) ?_
  refine x_mathMax dX6_init_12 ml_X6_15 qm_max.1 qm_max.2.1 qm_max.2.2 (Nat.le_of_ble_eq_true rfl) (Nat.le_of_ble_eq_true rfl) ?_
  refine xk_newa 1 (Or.inl ⟨rfl, rfl⟩) 8 30 (0, 0) (1, 8) (kSH 31) dX6_init_15 rfl rfl rfl (by decide) (by decide) (Nat.le_of_ble_eq_true rfl) (Nat.le_of_ble_eq_true rfl) (Nat.le_of_ble_eq_true rfl) (Nat.le_of_ble_eq_true rfl) rfl rfl ?_
  refine xk_putr 6 0 1856 kR_34 dX6_init_17 fl_X6_21 rfl (Or.inr ⟨_, rfl⟩) (Nat.le_of_ble_eq_true rfl) rfl rfl (Or.inr ⟨rfl, rfl⟩) ?_
  exact x_end (st := []) dX6_init_20 rfl K
theorem kc_9_X6_init {I : Nat → Nat → Int32} {L : Nat → Int64} {Q : Option Value → x_M → Prop} (K : Q none (kSH 34, (x_up I 2049 0 (0 : Int32)), L, kR_36)) : X none mX6_init (0, 0) 0 [(0, .ref 32), (1, .int (8 : Int32))] [] (kSH 33, I, L, kR_35) Q := by
  refine x_aload_n 0 dX6_init_0 rfl rfl ?_
  refine x_objInit dX6_init_1 ml_X6_3 (Nat.le_of_ble_eq_true rfl) (Nat.le_of_ble_eq_true rfl) ?_
  refine x_aload_n 0 dX6_init_4 rfl rfl ?_
  refine x_iconst (v := (0 : Int32)) dX6_init_5 (by decide) ?_
  refine xk_puti 6 1 2049 dX6_init_6 fl_X6_9 rfl rfl rfl (Or.inl rfl) ?_
  refine x_aload_n 0 dX6_init_9 rfl rfl ?_
  refine x_iload_n 1 dX6_init_10 rfl rfl ?_
  refine x_iconst (v := (0 : Int32)) dX6_init_11 (by decide) ?_
  refine x_mathMax dX6_init_12 ml_X6_15 qm_max.1 qm_max.2.1 qm_max.2.2 (Nat.le_of_ble_eq_true rfl) (Nat.le_of_ble_eq_true rfl) ?_
  refine xk_newa 1 (Or.inl ⟨rfl, rfl⟩) 8 33 (0, 0) (1, 8) (kSH 34) dX6_init_15 rfl rfl rfl (by decide) (by decide) (Nat.le_of_ble_eq_true rfl) (Nat.le_of_ble_eq_true rfl) (Nat.le_of_ble_eq_true rfl) (Nat.le_of_ble_eq_true rfl) rfl rfl ?_
  refine xk_putr 6 0 2048 kR_36 dX6_init_17 fl_X6_21 rfl (Or.inr ⟨_, rfl⟩) (Nat.le_of_ble_eq_true rfl) rfl rfl (Or.inr ⟨rfl, rfl⟩) ?_
  exact x_end (st := []) dX6_init_20 rfl K
theorem kc_10_X7_init {I : Nat → Nat → Int32} {L : Nat → Int64} {Q : Option Value → x_M → Prop} (K : Q none (kSH 43, (x_up I 2562 0 (0 : Int32)), L, kR_45)) : X none mX7_init (0, 0) 0 [(0, .ref 40), (1, .int (8 : Int32))] [] (kSH 41, I, L, kR_43) Q := by
  refine x_aload_n 0 dX7_init_0 rfl rfl ?_
  refine x_objInit dX7_init_1 ml_X7_3 (Nat.le_of_ble_eq_true rfl) (Nat.le_of_ble_eq_true rfl) ?_
  refine x_aload_n 0 dX7_init_4 rfl rfl ?_
  refine x_iconst (v := (0 : Int32)) dX7_init_5 (by decide) ?_
  refine xk_puti 7 2 2562 dX7_init_6 fl_X7_9 rfl rfl rfl (Or.inl rfl) ?_
  refine x_aload_n 0 dX7_init_9 rfl rfl ?_
  refine x_iload_n 1 dX7_init_10 rfl rfl ?_
  refine x_iconst (v := (0 : Int32)) dX7_init_11 (by decide) ?_
  refine x_mathMax dX7_init_12 ml_X7_15 qm_max.1 qm_max.2.1 qm_max.2.2 (Nat.le_of_ble_eq_true rfl) (Nat.le_of_ble_eq_true rfl) ?_
  refine xk_newa 1 (Or.inl ⟨rfl, rfl⟩) 8 41 (0, 0) (1, 8) (kSH 42) dX7_init_15 rfl rfl rfl (by decide) (by decide) (Nat.le_of_ble_eq_true rfl) (Nat.le_of_ble_eq_true rfl) (Nat.le_of_ble_eq_true rfl) (Nat.le_of_ble_eq_true rfl) rfl rfl ?_
  refine xk_putr 7 0 2560 kR_44 dX7_init_17 fl_X7_21 rfl (Or.inr ⟨_, rfl⟩) (Nat.le_of_ble_eq_true rfl) rfl rfl (Or.inr ⟨rfl, rfl⟩) ?_
  refine x_aload_n 0 dX7_init_20 rfl rfl ?_
  refine x_iload_n 1 dX7_init_21 rfl rfl ?_
  refine x_iconst (v := (0 : Int32)) dX7_init_22 (by decide) ?_
  refine x_mathMax dX7_init_23 ml_X7_15 qm_max.1 qm_max.2.1 qm_max.2.2 (Nat.le_of_ble_eq_true rfl) (Nat.le_of_ble_eq_true rfl) ?_
  refine xk_newa 1 (Or.inl ⟨rfl, rfl⟩) 8 42 (1, 8) (2, 16) (kSH 43) dX7_init_26 rfl rfl rfl (by decide) (by decide) (Nat.le_of_ble_eq_true rfl) (Nat.le_of_ble_eq_true rfl) (Nat.le_of_ble_eq_true rfl) (Nat.le_of_ble_eq_true rfl) rfl rfl ?_
  refine xk_putr 7 1 2561 kR_45 dX7_init_28 fl_X7_25 rfl (Or.inr ⟨_, rfl⟩) (Nat.le_of_ble_eq_true rfl) rfl rfl (Or.inr ⟨rfl, rfl⟩) ?_
  exact x_end (st := []) dX7_init_31 rfl K
theorem kc_11_X0_init {I : Nat → Nat → Int32} {L : Nat → Int64} {Q : Option Value → x_M → Prop} (K : Q none (kSH 43, (x_up (x_up I 2049 0 (0 : Int32)) 2562 0 (0 : Int32)), L, kR_48)) : X none mX0_init (0, 0) 0 [(0, .ref 31), (1, .ref 1), (2, .ref 16)] [] (kSH 32, I, L, kR_35) Q := by
  refine x_aload_n 0 dX0_init_0 rfl rfl ?_
  refine x_objInit dX0_init_1 ml_X0_3 (Nat.le_of_ble_eq_true rfl) (Nat.le_of_ble_eq_true rfl) ?_
  refine x_aload_n 0 dX0_init_4 rfl rfl ?_
  refine xk_new 6 32 (0, 0) (1, 2) (kSH 33) dX0_init_5 (by decide) cl_X0_9 x_ins6 rfl rfl rfl (Nat.le_of_ble_eq_true rfl) (Nat.le_of_ble_eq_true rfl) (Nat.le_of_ble_eq_true rfl) rfl rfl ?_
  refine x_dup dX0_init_8 rfl ?_
  refine x_bipush (v := (8 : Int32)) dX0_init_9 (by decide) ?_
  refine x_callC mX6_init [.int (8 : Int32)] [.ref 32, .ref 31] 32 1 _ rfl dX0_init_11 ml_X0_11 qX6_init rfl ⟨Nat.le_of_ble_eq_true rfl, Nat.le_of_ble_eq_true rfl⟩ ⟨Nat.le_of_ble_eq_true rfl, Nat.le_of_ble_eq_true rfl⟩ (Nat.le_of_ble_eq_true rfl) (Nat.le_of_ble_eq_true rfl) (Or.inr ⟨rfl, rfl⟩) (kc_9_X6_init ?_)
  show X none mX0_init (2, 23) 14 [(0, .ref 31), (1, .ref 1), (2, .ref 16)] [.ref 32, .ref 31] (kSH 34, (x_up I 2049 0 (0 : Int32)), L, kR_36) Q
  refine xk_putr 0 2 1986 kR_37 dX0_init_14 fl_X0_14 rfl (Or.inl ⟨_, rfl⟩) (Nat.le_of_ble_eq_true rfl) rfl rfl (Or.inr ⟨rfl, rfl⟩) ?_
  refine x_aload_n 0 dX0_init_17 rfl rfl ?_
  refine x_bipush (v := (8 : Int32)) dX0_init_18 (by decide) ?_
  refine xk_newa 1 (Or.inl ⟨rfl, rfl⟩) 8 34 (2, 23) (3, 31) (kSH 35) dX0_init_20 rfl rfl rfl (by decide) (by decide) (Nat.le_of_ble_eq_true rfl) (Nat.le_of_ble_eq_true rfl) (Nat.le_of_ble_eq_true rfl) (Nat.le_of_ble_eq_true rfl) rfl rfl ?_
  refine xk_putr 0 3 1987 kR_38 dX0_init_22 fl_X0_20 rfl (Or.inr ⟨_, rfl⟩) (Nat.le_of_ble_eq_true rfl) rfl rfl (Or.inr ⟨rfl, rfl⟩) ?_
  refine x_aload_n 0 dX0_init_25 rfl rfl ?_
  refine x_bipush (v := (8 : Int32)) dX0_init_26 (by decide) ?_
  refine xk_newa 1 (Or.inl ⟨rfl, rfl⟩) 8 35 (3, 31) (4, 39) (kSH 36) dX0_init_28 rfl rfl rfl (by decide) (by decide) (Nat.le_of_ble_eq_true rfl) (Nat.le_of_ble_eq_true rfl) (Nat.le_of_ble_eq_true rfl) (Nat.le_of_ble_eq_true rfl) rfl rfl ?_
  refine xk_putr 0 4 1988 kR_39 dX0_init_30 fl_X0_24 rfl (Or.inr ⟨_, rfl⟩) (Nat.le_of_ble_eq_true rfl) rfl rfl (Or.inr ⟨rfl, rfl⟩) ?_
  refine x_aload_n 0 dX0_init_33 rfl rfl ?_
  refine x_bipush (v := (8 : Int32)) dX0_init_34 (by decide) ?_
  refine xk_newa 1 (Or.inl ⟨rfl, rfl⟩) 8 36 (4, 39) (5, 47) (kSH 37) dX0_init_36 rfl rfl rfl (by decide) (by decide) (Nat.le_of_ble_eq_true rfl) (Nat.le_of_ble_eq_true rfl) (Nat.le_of_ble_eq_true rfl) (Nat.le_of_ble_eq_true rfl) rfl rfl ?_
  refine xk_putr 0 5 1989 kR_40 dX0_init_38 fl_X0_27 rfl (Or.inr ⟨_, rfl⟩) (Nat.le_of_ble_eq_true rfl) rfl rfl (Or.inr ⟨rfl, rfl⟩) ?_
  refine x_aload_n 0 dX0_init_41 rfl rfl ?_
  refine x_bipush (v := (8 : Int32)) dX0_init_42 (by decide) ?_
  refine xk_newa 1 (Or.inl ⟨rfl, rfl⟩) 8 37 (5, 47) (6, 55) (kSH 38) dX0_init_44 rfl rfl rfl (by decide) (by decide) (Nat.le_of_ble_eq_true rfl) (Nat.le_of_ble_eq_true rfl) (Nat.le_of_ble_eq_true rfl) (Nat.le_of_ble_eq_true rfl) rfl rfl ?_
  refine xk_putr 0 6 1990 kR_41 dX0_init_46 fl_X0_30 rfl (Or.inr ⟨_, rfl⟩) (Nat.le_of_ble_eq_true rfl) rfl rfl (Or.inr ⟨rfl, rfl⟩) ?_
  refine x_aload_n 0 dX0_init_49 rfl rfl ?_
  refine x_bipush (v := (8 : Int32)) dX0_init_50 (by decide) ?_
  refine xk_newa 1 (Or.inl ⟨rfl, rfl⟩) 8 38 (6, 55) (7, 63) (kSH 39) dX0_init_52 rfl rfl rfl (by decide) (by decide) (Nat.le_of_ble_eq_true rfl) (Nat.le_of_ble_eq_true rfl) (Nat.le_of_ble_eq_true rfl) (Nat.le_of_ble_eq_true rfl) rfl rfl ?_
  refine xk_putr 0 7 1991 kR_42 dX0_init_54 fl_X0_33 rfl (Or.inr ⟨_, rfl⟩) (Nat.le_of_ble_eq_true rfl) rfl rfl (Or.inr ⟨rfl, rfl⟩) ?_
  refine x_aload_n 0 dX0_init_57 rfl rfl ?_
  refine x_bipush (v := (8 : Int32)) dX0_init_58 (by decide) ?_
  refine xk_newa 1 (Or.inl ⟨rfl, rfl⟩) 8 39 (7, 63) (8, 71) (kSH 40) dX0_init_60 rfl rfl rfl (by decide) (by decide) (Nat.le_of_ble_eq_true rfl) (Nat.le_of_ble_eq_true rfl) (Nat.le_of_ble_eq_true rfl) (Nat.le_of_ble_eq_true rfl) rfl rfl ?_
  refine xk_putr 0 8 1992 kR_43 dX0_init_62 fl_X0_36 rfl (Or.inr ⟨_, rfl⟩) (Nat.le_of_ble_eq_true rfl) rfl rfl (Or.inr ⟨rfl, rfl⟩) ?_
  refine x_aload_n 0 dX0_init_65 rfl rfl ?_
  refine xk_new 7 40 (8, 71) (9, 74) (kSH 41) dX0_init_66 (by decide) cl_X0_39 x_ins7 rfl rfl rfl (Nat.le_of_ble_eq_true rfl) (Nat.le_of_ble_eq_true rfl) (Nat.le_of_ble_eq_true rfl) rfl rfl ?_
  refine x_dup dX0_init_69 rfl ?_
  refine x_bipush (v := (8 : Int32)) dX0_init_70 (by decide) ?_
  refine x_callC mX7_init [.int (8 : Int32)] [.ref 40, .ref 31] 40 1 _ rfl dX0_init_72 ml_X0_41 qX7_init rfl ⟨Nat.le_of_ble_eq_true rfl, Nat.le_of_ble_eq_true rfl⟩ ⟨Nat.le_of_ble_eq_true rfl, Nat.le_of_ble_eq_true rfl⟩ (Nat.le_of_ble_eq_true rfl) (Nat.le_of_ble_eq_true rfl) (Or.inr ⟨rfl, rfl⟩) (kc_10_X7_init ?_)
  show X none mX0_init (11, 106) 75 [(0, .ref 31), (1, .ref 1), (2, .ref 16)] [.ref 40, .ref 31] (kSH 43, (x_up (x_up I 2049 0 (0 : Int32)) 2562 0 (0 : Int32)), L, kR_45) Q
  refine xk_putr 0 9 1993 kR_46 dX0_init_75 fl_X0_42 rfl (Or.inl ⟨_, rfl⟩) (Nat.le_of_ble_eq_true rfl) rfl rfl (Or.inr ⟨rfl, rfl⟩) ?_
  refine x_aload_n 0 dX0_init_78 rfl rfl ?_
  refine x_aload_n 1 dX0_init_79 rfl rfl ?_
  refine xk_putr 0 0 1984 kR_47 dX0_init_80 fl_X0_46 rfl (Or.inl ⟨_, rfl⟩) (Nat.le_of_ble_eq_true rfl) rfl rfl (Or.inr ⟨rfl, rfl⟩) ?_
  refine x_aload_n 0 dX0_init_83 rfl rfl ?_
  refine x_aload_n 2 dX0_init_84 rfl rfl ?_
  refine xk_putr 0 1 1985 kR_48 dX0_init_85 fl_X0_50 rfl (Or.inl ⟨_, rfl⟩) (Nat.le_of_ble_eq_true rfl) rfl rfl (Or.inr ⟨rfl, rfl⟩) ?_
  exact x_end (st := []) dX0_init_88 rfl K
theorem kc_12_X7_init {I : Nat → Nat → Int32} {L : Nat → Int64} {Q : Option Value → x_M → Prop} (K : Q none (kSH 47, (x_up I 2818 0 (0 : Int32)), L, kR_51)) : X none mX7_init (0, 0) 0 [(0, .ref 44), (1, .int (16 : Int32))] [] (kSH 45, I, L, kR_49) Q := by
  refine x_aload_n 0 dX7_init_0 rfl rfl ?_
  refine x_objInit dX7_init_1 ml_X7_3 (Nat.le_of_ble_eq_true rfl) (Nat.le_of_ble_eq_true rfl) ?_
  refine x_aload_n 0 dX7_init_4 rfl rfl ?_
  refine x_iconst (v := (0 : Int32)) dX7_init_5 (by decide) ?_
  refine xk_puti 7 2 2818 dX7_init_6 fl_X7_9 rfl rfl rfl (Or.inl rfl) ?_
  refine x_aload_n 0 dX7_init_9 rfl rfl ?_
  refine x_iload_n 1 dX7_init_10 rfl rfl ?_
  refine x_iconst (v := (0 : Int32)) dX7_init_11 (by decide) ?_
  refine x_mathMax dX7_init_12 ml_X7_15 qm_max.1 qm_max.2.1 qm_max.2.2 (Nat.le_of_ble_eq_true rfl) (Nat.le_of_ble_eq_true rfl) ?_
  refine xk_newa 1 (Or.inl ⟨rfl, rfl⟩) 16 45 (0, 0) (1, 16) (kSH 46) dX7_init_15 rfl rfl rfl (by decide) (by decide) (Nat.le_of_ble_eq_true rfl) (Nat.le_of_ble_eq_true rfl) (Nat.le_of_ble_eq_true rfl) (Nat.le_of_ble_eq_true rfl) rfl rfl ?_
  refine xk_putr 7 0 2816 kR_50 dX7_init_17 fl_X7_21 rfl (Or.inr ⟨_, rfl⟩) (Nat.le_of_ble_eq_true rfl) rfl rfl (Or.inr ⟨rfl, rfl⟩) ?_
  refine x_aload_n 0 dX7_init_20 rfl rfl ?_
  refine x_iload_n 1 dX7_init_21 rfl rfl ?_
  refine x_iconst (v := (0 : Int32)) dX7_init_22 (by decide) ?_
  refine x_mathMax dX7_init_23 ml_X7_15 qm_max.1 qm_max.2.1 qm_max.2.2 (Nat.le_of_ble_eq_true rfl) (Nat.le_of_ble_eq_true rfl) ?_
  refine xk_newa 1 (Or.inl ⟨rfl, rfl⟩) 16 46 (1, 16) (2, 32) (kSH 47) dX7_init_26 rfl rfl rfl (by decide) (by decide) (Nat.le_of_ble_eq_true rfl) (Nat.le_of_ble_eq_true rfl) (Nat.le_of_ble_eq_true rfl) (Nat.le_of_ble_eq_true rfl) rfl rfl ?_
  refine xk_putr 7 1 2817 kR_51 dX7_init_28 fl_X7_25 rfl (Or.inr ⟨_, rfl⟩) (Nat.le_of_ble_eq_true rfl) rfl rfl (Or.inr ⟨rfl, rfl⟩) ?_
  exact x_end (st := []) dX7_init_31 rfl K
theorem kc_13_X6_init {I : Nat → Nat → Int32} {L : Nat → Int64} {Q : Option Value → x_M → Prop} (K : Q none (kSH 49, (x_up I 3009 0 (0 : Int32)), L, kR_53)) : X none mX6_init (0, 0) 0 [(0, .ref 47), (1, .int (21 : Int32))] [] (kSH 48, I, L, kR_52) Q := by
  refine x_aload_n 0 dX6_init_0 rfl rfl ?_
  refine x_objInit dX6_init_1 ml_X6_3 (Nat.le_of_ble_eq_true rfl) (Nat.le_of_ble_eq_true rfl) ?_
  refine x_aload_n 0 dX6_init_4 rfl rfl ?_
  refine x_iconst (v := (0 : Int32)) dX6_init_5 (by decide) ?_
  refine xk_puti 6 1 3009 dX6_init_6 fl_X6_9 rfl rfl rfl (Or.inl rfl) ?_
  refine x_aload_n 0 dX6_init_9 rfl rfl ?_
  refine x_iload_n 1 dX6_init_10 rfl rfl ?_
  refine x_iconst (v := (0 : Int32)) dX6_init_11 (by decide) ?_
  refine x_mathMax dX6_init_12 ml_X6_15 qm_max.1 qm_max.2.1 qm_max.2.2 (Nat.le_of_ble_eq_true rfl) (Nat.le_of_ble_eq_true rfl) ?_
  refine xk_newa 1 (Or.inl ⟨rfl, rfl⟩) 21 48 (0, 0) (1, 21) (kSH 49) dX6_init_15 rfl rfl rfl (by decide) (by decide) (Nat.le_of_ble_eq_true rfl) (Nat.le_of_ble_eq_true rfl) (Nat.le_of_ble_eq_true rfl) (Nat.le_of_ble_eq_true rfl) rfl rfl ?_
  refine xk_putr 6 0 3008 kR_53 dX6_init_17 fl_X6_21 rfl (Or.inr ⟨_, rfl⟩) (Nat.le_of_ble_eq_true rfl) rfl rfl (Or.inr ⟨rfl, rfl⟩) ?_
  exact x_end (st := []) dX6_init_20 rfl K
theorem kc_14_X1_init {I : Nat → Nat → Int32} {L : Nat → Int64} {Q : Option Value → x_M → Prop} (K : Q none (kSH 49, (x_up (x_up (x_up (x_up (x_up (x_up (x_up (x_up I 2818 0 (0 : Int32)) 3009 0 (0 : Int32)) 2757 0 (0 : Int32)) 2758 0 (0 : Int32)) 2759 0 (0 : Int32)) 2760 0 (0 : Int32)) 2761 0 (0 : Int32)) 2762 0 (0 : Int32)), L, kR_57)) : X none mX1_init (0, 0) 0 [(0, .ref 43), (1, .ref 1), (2, .ref 16), (3, .ref 31)] [] (kSH 44, I, L, kR_49) Q := by
  refine x_aload_n 0 dX1_init_0 rfl rfl ?_
  refine x_objInit dX1_init_1 ml_X1_3 (Nat.le_of_ble_eq_true rfl) (Nat.le_of_ble_eq_true rfl) ?_
  refine x_aload_n 0 dX1_init_4 rfl rfl ?_
  refine xk_new 7 44 (0, 0) (1, 3) (kSH 45) dX1_init_5 (by decide) cl_X1_9 x_ins7 rfl rfl rfl (Nat.le_of_ble_eq_true rfl) (Nat.le_of_ble_eq_true rfl) (Nat.le_of_ble_eq_true rfl) rfl rfl ?_
  refine x_dup dX1_init_8 rfl ?_
  refine x_bipush (v := (16 : Int32)) dX1_init_9 (by decide) ?_
  refine x_callC mX7_init [.int (16 : Int32)] [.ref 44, .ref 43] 44 1 _ rfl dX1_init_11 ml_X1_11 qX7_init rfl ⟨Nat.le_of_ble_eq_true rfl, Nat.le_of_ble_eq_true rfl⟩ ⟨Nat.le_of_ble_eq_true rfl, Nat.le_of_ble_eq_true rfl⟩ (Nat.le_of_ble_eq_true rfl) (Nat.le_of_ble_eq_true rfl) (Or.inr ⟨rfl, rfl⟩) (kc_12_X7_init ?_)
  show X none mX1_init (3, 35) 14 [(0, .ref 43), (1, .ref 1), (2, .ref 16), (3, .ref 31)] [.ref 44, .ref 43] (kSH 47, (x_up I 2818 0 (0 : Int32)), L, kR_51) Q
  refine xk_putr 1 3 2755 kR_52 dX1_init_14 fl_X1_14 rfl (Or.inl ⟨_, rfl⟩) (Nat.le_of_ble_eq_true rfl) rfl rfl (Or.inr ⟨rfl, rfl⟩) ?_
  refine x_aload_n 0 dX1_init_17 rfl rfl ?_
  refine xk_new 6 47 (3, 35) (4, 37) (kSH 48) dX1_init_18 (by decide) cl_X1_20 x_ins6 rfl rfl rfl (Nat.le_of_ble_eq_true rfl) (Nat.le_of_ble_eq_true rfl) (Nat.le_of_ble_eq_true rfl) rfl rfl ?_
  refine x_dup dX1_init_21 rfl ?_
  refine x_bipush (v := (21 : Int32)) dX1_init_22 (by decide) ?_
  refine x_callC mX6_init [.int (21 : Int32)] [.ref 47, .ref 43] 47 1 _ rfl dX1_init_24 ml_X1_22 qX6_init rfl ⟨Nat.le_of_ble_eq_true rfl, Nat.le_of_ble_eq_true rfl⟩ ⟨Nat.le_of_ble_eq_true rfl, Nat.le_of_ble_eq_true rfl⟩ (Nat.le_of_ble_eq_true rfl) (Nat.le_of_ble_eq_true rfl) (Or.inr ⟨rfl, rfl⟩) (kc_13_X6_init ?_)
  show X none mX1_init (5, 58) 27 [(0, .ref 43), (1, .ref 1), (2, .ref 16), (3, .ref 31)] [.ref 47, .ref 43] (kSH 49, (x_up (x_up I 2818 0 (0 : Int32)) 3009 0 (0 : Int32)), L, kR_53) Q
  refine xk_putr 1 4 2756 kR_54 dX1_init_27 fl_X1_23 rfl (Or.inl ⟨_, rfl⟩) (Nat.le_of_ble_eq_true rfl) rfl rfl (Or.inr ⟨rfl, rfl⟩) ?_
  refine x_aload_n 0 dX1_init_30 rfl rfl ?_
  refine x_iconst (v := (0 : Int32)) dX1_init_31 (by decide) ?_
  refine xk_puti 1 5 2757 dX1_init_32 fl_X1_27 rfl rfl rfl (Or.inl rfl) ?_
  refine x_aload_n 0 dX1_init_35 rfl rfl ?_
  refine x_iconst (v := (0 : Int32)) dX1_init_36 (by decide) ?_
  refine xk_puti 1 6 2758 dX1_init_37 fl_X1_31 rfl rfl rfl (Or.inl rfl) ?_
  refine x_aload_n 0 dX1_init_40 rfl rfl ?_
  refine x_iconst (v := (0 : Int32)) dX1_init_41 (by decide) ?_
  refine xk_puti 1 7 2759 dX1_init_42 fl_X1_34 rfl rfl rfl (Or.inl rfl) ?_
  refine x_aload_n 0 dX1_init_45 rfl rfl ?_
  refine x_iconst (v := (0 : Int32)) dX1_init_46 (by decide) ?_
  refine xk_puti 1 8 2760 dX1_init_47 fl_X1_37 rfl rfl rfl (Or.inl rfl) ?_
  refine x_aload_n 0 dX1_init_50 rfl rfl ?_
  refine x_iconst (v := (0 : Int32)) dX1_init_51 (by decide) ?_
  refine xk_puti 1 9 2761 dX1_init_52 fl_X1_40 rfl rfl rfl (Or.inl rfl) ?_
  refine x_aload_n 0 dX1_init_55 rfl rfl ?_
  refine x_iconst (v := (0 : Int32)) dX1_init_56 (by decide) ?_
  refine xk_putz 1 10 2762 dX1_init_57 fl_X1_43 rfl rfl (Or.inl rfl) rfl (Or.inl rfl) ?_
  refine x_aload_n 0 dX1_init_60 rfl rfl ?_
  refine x_aload_n 1 dX1_init_61 rfl rfl ?_
  refine xk_putr 1 0 2752 kR_55 dX1_init_62 fl_X1_47 rfl (Or.inl ⟨_, rfl⟩) (Nat.le_of_ble_eq_true rfl) rfl rfl (Or.inr ⟨rfl, rfl⟩) ?_
  refine x_aload_n 0 dX1_init_65 rfl rfl ?_
  refine x_aload_n 2 dX1_init_66 rfl rfl ?_
  refine xk_putr 1 1 2753 kR_56 dX1_init_67 fl_X1_51 rfl (Or.inl ⟨_, rfl⟩) (Nat.le_of_ble_eq_true rfl) rfl rfl (Or.inr ⟨rfl, rfl⟩) ?_
  refine x_aload_n 0 dX1_init_70 rfl rfl ?_
  refine x_aload_n 3 dX1_init_71 rfl rfl ?_
  refine xk_putr 1 2 2754 kR_57 dX1_init_72 fl_X1_55 rfl (Or.inl ⟨_, rfl⟩) (Nat.le_of_ble_eq_true rfl) rfl rfl (Or.inr ⟨rfl, rfl⟩) ?_
  exact x_end (st := []) dX1_init_75 rfl K
theorem kc_15_X9_init {I : Nat → Nat → Int32} {L : Nat → Int64} {Q : Option Value → x_M → Prop} (K : Q none (kSH 49, (x_up (x_up (x_up (x_up (x_up (x_up (x_up (x_up (x_up (x_up (x_up (x_up (x_up (x_up (x_up (x_up (x_up (x_up (x_up (x_up (x_up (x_up (x_up I 64 0 (2 : Int32)) 65 0 (0 : Int32)) 66 0 (0 : Int32)) 514 0 (0 : Int32)) 515 0 (0 : Int32)) 517 0 (0 : Int32)) 518 0 (0 : Int32)) 519 0 (0 : Int32)) 709 0 (0 : Int32)) 710 0 (0 : Int32)) 1537 0 (0 : Int32)) 1666 0 (0 : Int32)) 1857 0 (0 : Int32)) 2049 0 (0 : Int32)) 2562 0 (0 : Int32)) 2818 0 (0 : Int32)) 3009 0 (0 : Int32)) 2757 0 (0 : Int32)) 2758 0 (0 : Int32)) 2759 0 (0 : Int32)) 2760 0 (0 : Int32)) 2761 0 (0 : Int32)) 2762 0 (0 : Int32)), (x_upL L 520 (0 : Int64)), kR_58)) : X none mX9_init (0, 0) 0 [(0, .ref 0)] [] (kSH 1, I, L, kR_0) Q := by
  refine x_aload_n 0 dX9_init_0 rfl rfl ?_
  refine x_objInit dX9_init_1 ml_X9_1 (Nat.le_of_ble_eq_true rfl) (Nat.le_of_ble_eq_true rfl) ?_
  refine x_aload_n 0 dX9_init_4 rfl rfl ?_
  refine xk_new 2 1 (0, 0) (1, 9) (kSH 2) dX9_init_5 (by decide) cl_X9_7 x_ins2 rfl rfl rfl (Nat.le_of_ble_eq_true rfl) (Nat.le_of_ble_eq_true rfl) (Nat.le_of_ble_eq_true rfl) rfl rfl ?_
  refine x_dup dX9_init_8 rfl ?_
  refine x_callN mX2_init [] [.ref 1, .ref 0] 1 0 _ rfl dX9_init_9 rfl rfl qX2_init rfl ⟨Nat.le_of_ble_eq_true rfl, Nat.le_of_ble_eq_true rfl⟩ ⟨Nat.le_of_ble_eq_true rfl, Nat.le_of_ble_eq_true rfl⟩ (Nat.le_of_ble_eq_true rfl) (Nat.le_of_ble_eq_true rfl) (Or.inr ⟨rfl, rfl⟩) (kc_1_X2_init ?_)
  show X none mX9_init (7, 87) 12 [(0, .ref 0)] [.ref 1, .ref 0] (kSH 8, (x_up (x_up (x_up I 64 0 (2 : Int32)) 65 0 (0 : Int32)) 66 0 (0 : Int32)), L, kR_6) Q
  refine xk_putr 9 0 0 kR_7 dX9_init_12 fl_X9_10 rfl (Or.inl ⟨_, rfl⟩) (Nat.le_of_ble_eq_true rfl) rfl rfl (Or.inr ⟨rfl, rfl⟩) ?_
  refine x_aload_n 0 dX9_init_15 rfl rfl ?_
  refine xk_new 8 8 (7, 87) (8, 96) (kSH 9) dX9_init_16 (by decide) cl_X9_16 x_ins8 rfl rfl rfl (Nat.le_of_ble_eq_true rfl) (Nat.le_of_ble_eq_true rfl) (Nat.le_of_ble_eq_true rfl) rfl rfl ?_
  refine x_dup dX9_init_19 rfl ?_
  refine x_aload_n 0 dX9_init_20 rfl rfl ?_
  refine xk_getr 9 0 dX9_init_21 fl_X9_10 rfl rfl (show kR_7 0 = some 1 by decide +kernel) ?_
  refine x_callC mX8_init [.ref 1] [.ref 8, .ref 0] 8 1 _ rfl dX9_init_24 ml_X9_18 qX8_init rfl ⟨Nat.le_of_ble_eq_true rfl, Nat.le_of_ble_eq_true rfl⟩ ⟨Nat.le_of_ble_eq_true rfl, Nat.le_of_ble_eq_true rfl⟩ (Nat.le_of_ble_eq_true rfl) (Nat.le_of_ble_eq_true rfl) (Or.inr ⟨rfl, rfl⟩) (kc_2_X8_init ?_)
  show X none mX9_init (10, 392) 27 [(0, .ref 0)] [.ref 8, .ref 0] (kSH 11, (x_up (x_up (x_up (x_up (x_up (x_up (x_up (x_up I 64 0 (2 : Int32)) 65 0 (0 : Int32)) 66 0 (0 : Int32)) 514 0 (0 : Int32)) 515 0 (0 : Int32)) 517 0 (0 : Int32)) 518 0 (0 : Int32)) 519 0 (0 : Int32)), (x_upL L 520 (0 : Int64)), kR_10) Q
  refine xk_putr 9 1 1 kR_11 dX9_init_27 fl_X9_21 rfl (Or.inl ⟨_, rfl⟩) (Nat.le_of_ble_eq_true rfl) rfl rfl (Or.inr ⟨rfl, rfl⟩) ?_
  refine x_aload_n 0 dX9_init_30 rfl rfl ?_
  refine xk_new 3 11 (10, 392) (11, 399) (kSH 12) dX9_init_31 (by decide) cl_X9_25 x_ins3 rfl rfl rfl (Nat.le_of_ble_eq_true rfl) (Nat.le_of_ble_eq_true rfl) (Nat.le_of_ble_eq_true rfl) rfl rfl ?_
  refine x_dup dX9_init_34 rfl ?_
  refine x_aload_n 0 dX9_init_35 rfl rfl ?_
  refine xk_getr 9 0 dX9_init_36 fl_X9_10 rfl rfl (show kR_11 0 = some 1 by decide +kernel) ?_
  refine x_callC mX3_init [.ref 1] [.ref 11, .ref 0] 11 1 _ rfl dX9_init_39 ml_X9_27 qX3_init rfl ⟨Nat.le_of_ble_eq_true rfl, Nat.le_of_ble_eq_true rfl⟩ ⟨Nat.le_of_ble_eq_true rfl, Nat.le_of_ble_eq_true rfl⟩ (Nat.le_of_ble_eq_true rfl) (Nat.le_of_ble_eq_true rfl) (Or.inr ⟨rfl, rfl⟩) (kc_3_X3_init ?_)
  show X none mX9_init (15, 431) 42 [(0, .ref 0)] [.ref 11, .ref 0] (kSH 16, (x_up (x_up (x_up (x_up (x_up (x_up (x_up (x_up (x_up (x_up I 64 0 (2 : Int32)) 65 0 (0 : Int32)) 66 0 (0 : Int32)) 514 0 (0 : Int32)) 515 0 (0 : Int32)) 517 0 (0 : Int32)) 518 0 (0 : Int32)) 519 0 (0 : Int32)) 709 0 (0 : Int32)) 710 0 (0 : Int32)), (x_upL L 520 (0 : Int64)), kR_16) Q
  refine xk_putr 9 2 2 kR_17 dX9_init_42 fl_X9_28 rfl (Or.inl ⟨_, rfl⟩) (Nat.le_of_ble_eq_true rfl) rfl rfl (Or.inr ⟨rfl, rfl⟩) ?_
  refine x_aload_n 0 dX9_init_45 rfl rfl ?_
  refine xk_new 5 16 (15, 431) (16, 435) (kSH 17) dX9_init_46 (by decide) cl_X9_32 x_ins5 rfl rfl rfl (Nat.le_of_ble_eq_true rfl) (Nat.le_of_ble_eq_true rfl) (Nat.le_of_ble_eq_true rfl) rfl rfl ?_
  refine x_dup dX9_init_49 rfl ?_
  refine x_aload_n 0 dX9_init_50 rfl rfl ?_
  refine xk_getr 9 0 dX9_init_51 fl_X9_10 rfl rfl (show kR_17 0 = some 1 by decide +kernel) ?_
  refine x_callC mX5_init [.ref 1] [.ref 16, .ref 0] 16 1 _ rfl dX9_init_54 ml_X9_34 qX5_init rfl ⟨Nat.le_of_ble_eq_true rfl, Nat.le_of_ble_eq_true rfl⟩ ⟨Nat.le_of_ble_eq_true rfl, Nat.le_of_ble_eq_true rfl⟩ (Nat.le_of_ble_eq_true rfl) (Nat.le_of_ble_eq_true rfl) (Or.inr ⟨rfl, rfl⟩) (kc_4_X5_init ?_)
  show X none mX9_init (19, 459) 57 [(0, .ref 0)] [.ref 16, .ref 0] (kSH 20, (x_up (x_up (x_up (x_up (x_up (x_up (x_up (x_up (x_up (x_up I 64 0 (2 : Int32)) 65 0 (0 : Int32)) 66 0 (0 : Int32)) 514 0 (0 : Int32)) 515 0 (0 : Int32)) 517 0 (0 : Int32)) 518 0 (0 : Int32)) 519 0 (0 : Int32)) 709 0 (0 : Int32)) 710 0 (0 : Int32)), (x_upL L 520 (0 : Int64)), kR_21) Q
  refine xk_putr 9 3 3 kR_22 dX9_init_57 fl_X9_35 rfl (Or.inl ⟨_, rfl⟩) (Nat.le_of_ble_eq_true rfl) rfl rfl (Or.inr ⟨rfl, rfl⟩) ?_
  refine x_aload_n 0 dX9_init_60 rfl rfl ?_
  refine xk_new 4 20 (19, 459) (20, 465) (kSH 21) dX9_init_61 (by decide) cl_X9_39 x_ins4 rfl rfl rfl (Nat.le_of_ble_eq_true rfl) (Nat.le_of_ble_eq_true rfl) (Nat.le_of_ble_eq_true rfl) rfl rfl ?_
  refine x_dup dX9_init_64 rfl ?_
  refine x_aload_n 0 dX9_init_65 rfl rfl ?_
  refine xk_getr 9 0 dX9_init_66 fl_X9_10 rfl rfl (show kR_22 0 = some 1 by decide +kernel) ?_
  refine x_aload_n 0 dX9_init_69 rfl rfl ?_
  refine xk_getr 9 3 dX9_init_70 fl_X9_35 rfl rfl (show kR_22 3 = some 16 by decide +kernel) ?_
  refine x_callC mX4_init [.ref 1, .ref 16] [.ref 20, .ref 0] 20 2 _ rfl dX9_init_73 ml_X9_41 qX4_init rfl ⟨Nat.le_of_ble_eq_true rfl, Nat.le_of_ble_eq_true rfl⟩ ⟨Nat.le_of_ble_eq_true rfl, Nat.le_of_ble_eq_true rfl⟩ (Nat.le_of_ble_eq_true rfl) (Nat.le_of_ble_eq_true rfl) (Or.inr ⟨rfl, rfl⟩) (kc_6_X4_init ?_)
  show X none mX9_init (25, 872) 76 [(0, .ref 0)] [.ref 20, .ref 0] (kSH 26, (x_up (x_up (x_up (x_up (x_up (x_up (x_up (x_up (x_up (x_up (x_up I 64 0 (2 : Int32)) 65 0 (0 : Int32)) 66 0 (0 : Int32)) 514 0 (0 : Int32)) 515 0 (0 : Int32)) 517 0 (0 : Int32)) 518 0 (0 : Int32)) 519 0 (0 : Int32)) 709 0 (0 : Int32)) 710 0 (0 : Int32)) 1537 0 (0 : Int32)), (x_upL L 520 (0 : Int64)), kR_29) Q
  refine xk_putr 9 4 4 kR_30 dX9_init_76 fl_X9_44 rfl (Or.inl ⟨_, rfl⟩) (Nat.le_of_ble_eq_true rfl) rfl rfl (Or.inr ⟨rfl, rfl⟩) ?_
  refine x_aload_n 0 dX9_init_79 rfl rfl ?_
  refine xk_new 7 26 (25, 872) (26, 875) (kSH 27) dX9_init_80 (by decide) cl_X9_48 x_ins7 rfl rfl rfl (Nat.le_of_ble_eq_true rfl) (Nat.le_of_ble_eq_true rfl) (Nat.le_of_ble_eq_true rfl) rfl rfl ?_
  refine x_dup dX9_init_83 rfl ?_
  refine x_bipush (v := (8 : Int32)) dX9_init_84 (by decide) ?_
  refine x_callC mX7_init [.int (8 : Int32)] [.ref 26, .ref 0] 26 1 _ rfl dX9_init_86 ml_X9_50 qX7_init rfl ⟨Nat.le_of_ble_eq_true rfl, Nat.le_of_ble_eq_true rfl⟩ ⟨Nat.le_of_ble_eq_true rfl, Nat.le_of_ble_eq_true rfl⟩ (Nat.le_of_ble_eq_true rfl) (Nat.le_of_ble_eq_true rfl) (Or.inr ⟨rfl, rfl⟩) (kc_7_X7_init ?_)
  show X none mX9_init (28, 907) 89 [(0, .ref 0)] [.ref 26, .ref 0] (kSH 29, (x_up (x_up (x_up (x_up (x_up (x_up (x_up (x_up (x_up (x_up (x_up (x_up I 64 0 (2 : Int32)) 65 0 (0 : Int32)) 66 0 (0 : Int32)) 514 0 (0 : Int32)) 515 0 (0 : Int32)) 517 0 (0 : Int32)) 518 0 (0 : Int32)) 519 0 (0 : Int32)) 709 0 (0 : Int32)) 710 0 (0 : Int32)) 1537 0 (0 : Int32)) 1666 0 (0 : Int32)), (x_upL L 520 (0 : Int64)), kR_32) Q
  refine xk_putr 9 5 5 kR_33 dX9_init_89 fl_X9_53 rfl (Or.inl ⟨_, rfl⟩) (Nat.le_of_ble_eq_true rfl) rfl rfl (Or.inr ⟨rfl, rfl⟩) ?_
  refine x_aload_n 0 dX9_init_92 rfl rfl ?_
  refine xk_new 6 29 (28, 907) (29, 909) (kSH 30) dX9_init_93 (by decide) cl_X9_57 x_ins6 rfl rfl rfl (Nat.le_of_ble_eq_true rfl) (Nat.le_of_ble_eq_true rfl) (Nat.le_of_ble_eq_true rfl) rfl rfl ?_
  refine x_dup dX9_init_96 rfl ?_
  refine x_bipush (v := (8 : Int32)) dX9_init_97 (by decide) ?_
  refine x_callC mX6_init [.int (8 : Int32)] [.ref 29, .ref 0] 29 1 _ rfl dX9_init_99 ml_X9_59 qX6_init rfl ⟨Nat.le_of_ble_eq_true rfl, Nat.le_of_ble_eq_true rfl⟩ ⟨Nat.le_of_ble_eq_true rfl, Nat.le_of_ble_eq_true rfl⟩ (Nat.le_of_ble_eq_true rfl) (Nat.le_of_ble_eq_true rfl) (Or.inr ⟨rfl, rfl⟩) (kc_8_X6_init ?_)
  show X none mX9_init (30, 930) 102 [(0, .ref 0)] [.ref 29, .ref 0] (kSH 31, (x_up (x_up (x_up (x_up (x_up (x_up (x_up (x_up (x_up (x_up (x_up (x_up (x_up I 64 0 (2 : Int32)) 65 0 (0 : Int32)) 66 0 (0 : Int32)) 514 0 (0 : Int32)) 515 0 (0 : Int32)) 517 0 (0 : Int32)) 518 0 (0 : Int32)) 519 0 (0 : Int32)) 709 0 (0 : Int32)) 710 0 (0 : Int32)) 1537 0 (0 : Int32)) 1666 0 (0 : Int32)) 1857 0 (0 : Int32)), (x_upL L 520 (0 : Int64)), kR_34) Q
  refine xk_putr 9 6 6 kR_35 dX9_init_102 fl_X9_60 rfl (Or.inl ⟨_, rfl⟩) (Nat.le_of_ble_eq_true rfl) rfl rfl (Or.inr ⟨rfl, rfl⟩) ?_
  refine x_aload_n 0 dX9_init_105 rfl rfl ?_
  refine xk_new 0 31 (30, 930) (31, 940) (kSH 32) dX9_init_106 (by decide) cl_X9_64 x_ins0 rfl rfl rfl (Nat.le_of_ble_eq_true rfl) (Nat.le_of_ble_eq_true rfl) (Nat.le_of_ble_eq_true rfl) rfl rfl ?_
  refine x_dup dX9_init_109 rfl ?_
  refine x_aload_n 0 dX9_init_110 rfl rfl ?_
  refine xk_getr 9 0 dX9_init_111 fl_X9_10 rfl rfl (show kR_35 0 = some 1 by decide +kernel) ?_
  refine x_aload_n 0 dX9_init_114 rfl rfl ?_
  refine xk_getr 9 3 dX9_init_115 fl_X9_35 rfl rfl (show kR_35 3 = some 16 by decide +kernel) ?_
  refine x_callC mX0_init [.ref 1, .ref 16] [.ref 31, .ref 0] 31 2 _ rfl dX9_init_118 ml_X9_66 qX0_init rfl ⟨Nat.le_of_ble_eq_true rfl, Nat.le_of_ble_eq_true rfl⟩ ⟨Nat.le_of_ble_eq_true rfl, Nat.le_of_ble_eq_true rfl⟩ (Nat.le_of_ble_eq_true rfl) (Nat.le_of_ble_eq_true rfl) (Or.inr ⟨rfl, rfl⟩) (kc_11_X0_init ?_)
  show X none mX9_init (42, 1046) 121 [(0, .ref 0)] [.ref 31, .ref 0] (kSH 43, (x_up (x_up (x_up (x_up (x_up (x_up (x_up (x_up (x_up (x_up (x_up (x_up (x_up (x_up (x_up I 64 0 (2 : Int32)) 65 0 (0 : Int32)) 66 0 (0 : Int32)) 514 0 (0 : Int32)) 515 0 (0 : Int32)) 517 0 (0 : Int32)) 518 0 (0 : Int32)) 519 0 (0 : Int32)) 709 0 (0 : Int32)) 710 0 (0 : Int32)) 1537 0 (0 : Int32)) 1666 0 (0 : Int32)) 1857 0 (0 : Int32)) 2049 0 (0 : Int32)) 2562 0 (0 : Int32)), (x_upL L 520 (0 : Int64)), kR_48) Q
  refine xk_putr 9 7 7 kR_49 dX9_init_121 fl_X9_67 rfl (Or.inl ⟨_, rfl⟩) (Nat.le_of_ble_eq_true rfl) rfl rfl (Or.inr ⟨rfl, rfl⟩) ?_
  refine x_aload_n 0 dX9_init_124 rfl rfl ?_
  refine xk_new 1 43 (42, 1046) (43, 1057) (kSH 44) dX9_init_125 (by decide) cl_X9_71 x_ins1 rfl rfl rfl (Nat.le_of_ble_eq_true rfl) (Nat.le_of_ble_eq_true rfl) (Nat.le_of_ble_eq_true rfl) rfl rfl ?_
  refine x_dup dX9_init_128 rfl ?_
  refine x_aload_n 0 dX9_init_129 rfl rfl ?_
  refine xk_getr 9 0 dX9_init_130 fl_X9_10 rfl rfl (show kR_49 0 = some 1 by decide +kernel) ?_
  refine x_aload_n 0 dX9_init_133 rfl rfl ?_
  refine xk_getr 9 3 dX9_init_134 fl_X9_35 rfl rfl (show kR_49 3 = some 16 by decide +kernel) ?_
  refine x_aload_n 0 dX9_init_137 rfl rfl ?_
  refine xk_getr 9 7 dX9_init_138 fl_X9_67 rfl rfl (show kR_49 7 = some 31 by decide +kernel) ?_
  refine x_callC mX1_init [.ref 1, .ref 16, .ref 31] [.ref 43, .ref 0] 43 3 _ rfl dX9_init_141 ml_X9_73 qX1_init rfl ⟨Nat.le_of_ble_eq_true rfl, Nat.le_of_ble_eq_true rfl⟩ ⟨Nat.le_of_ble_eq_true rfl, Nat.le_of_ble_eq_true rfl⟩ (Nat.le_of_ble_eq_true rfl) (Nat.le_of_ble_eq_true rfl) (Or.inr ⟨rfl, rfl⟩) (kc_14_X1_init ?_)
  show X none mX9_init (48, 1115) 144 [(0, .ref 0)] [.ref 43, .ref 0] (kSH 49, (x_up (x_up (x_up (x_up (x_up (x_up (x_up (x_up (x_up (x_up (x_up (x_up (x_up (x_up (x_up (x_up (x_up (x_up (x_up (x_up (x_up (x_up (x_up I 64 0 (2 : Int32)) 65 0 (0 : Int32)) 66 0 (0 : Int32)) 514 0 (0 : Int32)) 515 0 (0 : Int32)) 517 0 (0 : Int32)) 518 0 (0 : Int32)) 519 0 (0 : Int32)) 709 0 (0 : Int32)) 710 0 (0 : Int32)) 1537 0 (0 : Int32)) 1666 0 (0 : Int32)) 1857 0 (0 : Int32)) 2049 0 (0 : Int32)) 2562 0 (0 : Int32)) 2818 0 (0 : Int32)) 3009 0 (0 : Int32)) 2757 0 (0 : Int32)) 2758 0 (0 : Int32)) 2759 0 (0 : Int32)) 2760 0 (0 : Int32)) 2761 0 (0 : Int32)) 2762 0 (0 : Int32)), (x_upL L 520 (0 : Int64)), kR_57) Q
  refine xk_putr 9 8 8 kR_58 dX9_init_144 fl_X9_76 rfl (Or.inl ⟨_, rfl⟩) (Nat.le_of_ble_eq_true rfl) rfl rfl (Or.inr ⟨rfl, rfl⟩) ?_
  exact x_end (st := []) dX9_init_147 rfl K
def k_I9 : Nat → Nat → Int32 := (x_up (x_up (x_up (x_up (x_up (x_up (x_up (x_up (x_up (x_up (x_up (x_up (x_up (x_up (x_up (x_up (x_up (x_up (x_up (x_up (x_up (x_up (x_up (fun _ _ => (0 : Int32)) 64 0 (2 : Int32)) 65 0 (0 : Int32)) 66 0 (0 : Int32)) 514 0 (0 : Int32)) 515 0 (0 : Int32)) 517 0 (0 : Int32)) 518 0 (0 : Int32)) 519 0 (0 : Int32)) 709 0 (0 : Int32)) 710 0 (0 : Int32)) 1537 0 (0 : Int32)) 1666 0 (0 : Int32)) 1857 0 (0 : Int32)) 2049 0 (0 : Int32)) 2562 0 (0 : Int32)) 2818 0 (0 : Int32)) 3009 0 (0 : Int32)) 2757 0 (0 : Int32)) 2758 0 (0 : Int32)) 2759 0 (0 : Int32)) 2760 0 (0 : Int32)) 2761 0 (0 : Int32)) 2762 0 (0 : Int32))
def k_L9 : Nat → Int64 := (x_upL (fun _ => (0 : Int64)) 520 (0 : Int64))
theorem kSH_end : kSH 50 = x_SH := rfl
theorem cl_0 : Cl k_I9 (q_s0, [], (0, fun _ => 0), false, (0, fun _ => (0, fun _ => 0, fun _ => 0, fun _ => 0)), (0, 0, 0, 0, fun _ => 0, [], false), [], k_I9 3136) := by
  refine ⟨⟨⟨by decide, by decide, by decide, fun l hl => absurd hl (Nat.not_lt_zero l), fun l l' hl => absurd hl (Nat.not_lt_zero l)⟩, fun l hl => absurd hl (Nat.not_lt_zero l), fun l hl => absurd hl (Nat.not_lt_zero l), by decide, fun u _ => by show 0 < 2 ^ 0; decide⟩, ⟨⟨by decide +kernel, by decide +kernel, fun l hl => absurd hl (Nat.not_lt_zero l)⟩, fun l hl => absurd hl (Nat.not_lt_zero l), fun l hl => absurd hl (Nat.not_lt_zero l), by decide +kernel, fun u hu => ?_⟩, ⟨by decide +kernel, Nat.zero_le _, fun j hj => absurd hj (Nat.not_lt_zero j)⟩, ⟨Nat.zero_le _, fun p hp => (by cases hp), by decide +kernel, fun t ht => absurd ht (Nat.not_lt_zero t)⟩, ⟨Nat.zero_le _, by decide +kernel, fun t ht => absurd ht (Nat.not_lt_zero t)⟩, (show k_I9 2757 0 = i_b false by decide +kernel), ⟨0, Nat.zero_le _, by decide, by decide +kernel, by decide +kernel, rfl, fun i hi => absurd hi (Nat.not_lt_zero i)⟩, ⟨by decide, Nat.zero_le _, fun l => Nat.zero_le _, by decide +kernel, by decide +kernel, by decide +kernel, by decide +kernel, by decide +kernel, fun l hl => ?_, fun q => absurd q (Nat.lt_irrefl 0)⟩, rfl⟩
  · have hu' : u < 2 := hu
    have : ∀ u, u < 2 → k_I9 448 u = nI 0 := by decide +kernel
    exact this u hu'
  · have : ∀ l, l < 14 → k_I9 384 l = nI 0 := by decide +kernel
    exact this l hl
theorem law_start {Lc : Nat} {xs : Nat → Int32} (hL : Lc ≤ 260) : X (some (Lc, xs)) mL_law (0, 0) 0 [(0, .ref 1000020)] [] ([], fun _ _ => 0, fun _ => 0, fun _ => none) (fun r _ => r = some (.int 1)) := by
  refine xk_new 9 0 (0, 0) (1, 9) (kSH 1) dL_law_0 (by decide) cl_L_20 x_ins9 rfl rfl rfl (Nat.le_of_ble_eq_true rfl) (Nat.le_of_ble_eq_true rfl) (Nat.le_of_ble_eq_true rfl) rfl rfl ?_
  refine x_dup dL_law_3 rfl ?_
  refine x_callC mX9_init [] [.ref 0] 0 0 _ rfl dL_law_4 ml_L_125 qX9_init rfl ⟨Nat.le_of_ble_eq_true rfl, Nat.le_of_ble_eq_true rfl⟩ ⟨Nat.le_of_ble_eq_true rfl, Nat.le_of_ble_eq_true rfl⟩ (Nat.le_of_ble_eq_true rfl) (Nat.le_of_ble_eq_true rfl) (Or.inr ⟨rfl, rfl⟩) (kc_15_X9_init ?_)
  show X (some (Lc, xs)) mL_law (49, 1124) 7 [(0, .ref 1000020)] [.ref 0] (kSH 49, k_I9, k_L9, kR_58) _
  refine x_astore_n [(0, .ref 1000020), (1, .ref 0)] dL_law_7 rfl (Nat.le_of_ble_eq_true rfl) rfl ?_
  refine x_bipush (v := (64 : Int32)) dL_law_8 (by decide) ?_
  refine xk_newa 1 (Or.inl ⟨rfl, rfl⟩) 64 49 (49, 1124) (50, 1188) (kSH 50) dL_law_10 rfl rfl rfl (by decide) (by decide) (Nat.le_of_ble_eq_true rfl) (Nat.le_of_ble_eq_true rfl) (Nat.le_of_ble_eq_true rfl) (Nat.le_of_ble_eq_true rfl) rfl rfl ?_
  rw [kSH_end, kR_end]
  refine x_astore_n [(0, .ref 1000020), (1, .ref 0), (2, .ref 49)] dL_law_12 rfl (Nat.le_of_ble_eq_true rfl) rfl ?_
  exact x_mono (law_body (Q := fun r _ _ => r = some (.int 1)) hL rfl rfl rfl cl_0 (fun _ _ => rfl)) (fun r M' q => q.2.2)
