/-! ===== the world behind the two constructors; runs in it ===== -/
def x_SH : List (Nat × Nat) := [(0, 9), (0, 2), (1, 14), (1, 14), (1, 14), (1, 14), (1, 14), (1, 8), (0, 8), (1, 200), (1, 96), (0, 3), (1, 8), (1, 8), (1, 8), (1, 8), (0, 5), (1, 8), (1, 8), (1, 8), (0, 4), (1, 64), (1, 64), (2, 256), (0, 6), (1, 8), (0, 7), (1, 8), (1, 8), (0, 6), (1, 8), (0, 0), (0, 6), (1, 8), (1, 8), (1, 8), (1, 8), (1, 8), (1, 8), (1, 8), (0, 7), (1, 8), (1, 8), (0, 1), (0, 7), (1, 16), (1, 16), (0, 6), (1, 21), (1, 64)]
def x_RF0 : Nat → Option Nat := (x_upR (x_upR (x_upR (x_upR (x_upR (x_upR (x_upR (x_upR (x_upR (x_upR (x_upR (x_upR (x_upR (x_upR (x_upR (x_upR (x_upR (x_upR (x_upR (x_upR (fun _ => none) 67 (some 2)) 68 (some 3)) 69 (some 4)) 70 (some 5)) 71 (some 6)) 72 (some 7)) 0 (some 1)) 513 (some 9)) 516 (some 10)) 512 (some 1)) 1 (some 8)) 705 (some 12)) 706 (some 13)) 707 (some 14)) 708 (some 15)) 704 (some 1)) 2 (some 11)) 1025 (some 17)) 1026 (some 18)) 1027 (some 19))
def x_RF1 : Nat → Option Nat := (x_upR (x_upR (x_upR (x_upR (x_upR (x_upR (x_upR (x_upR (x_upR (x_upR (x_upR (x_upR (x_upR (x_upR (x_upR (x_upR (x_upR (x_upR (x_upR (x_upR x_RF0 1024 (some 1)) 3 (some 16)) 1282 (some 21)) 1283 (some 22)) 1284 (some 23)) 1536 (some 25)) 1285 (some 24)) 1280 (some 1)) 1281 (some 16)) 4 (some 20)) 1664 (some 27)) 1665 (some 28)) 5 (some 26)) 1856 (some 30)) 6 (some 29)) 2048 (some 33)) 1986 (some 32)) 1987 (some 34)) 1988 (some 35)) 1989 (some 36))
def x_RF2 : Nat → Option Nat := (x_upR (x_upR (x_upR (x_upR (x_upR (x_upR (x_upR (x_upR (x_upR (x_upR (x_upR (x_upR (x_upR (x_upR (x_upR (x_upR (x_upR (x_upR x_RF1 1990 (some 37)) 1991 (some 38)) 1992 (some 39)) 2560 (some 41)) 2561 (some 42)) 1993 (some 40)) 1984 (some 1)) 1985 (some 16)) 7 (some 31)) 2816 (some 45)) 2817 (some 46)) 2755 (some 44)) 3008 (some 48)) 2756 (some 47)) 2752 (some 1)) 2753 (some 16)) 2754 (some 31)) 8 (some 43))
def x_RF : Nat → Option Nat := x_RF2
theorem sh_0 : x_SH[0]? = some (0, 9) := rfl
theorem sh_1 : x_SH[1]? = some (0, 2) := rfl
theorem sh_2 : x_SH[2]? = some (1, 14) := rfl
theorem sh_3 : x_SH[3]? = some (1, 14) := rfl
theorem sh_4 : x_SH[4]? = some (1, 14) := rfl
theorem sh_5 : x_SH[5]? = some (1, 14) := rfl
theorem sh_6 : x_SH[6]? = some (1, 14) := rfl
theorem sh_7 : x_SH[7]? = some (1, 8) := rfl
theorem sh_8 : x_SH[8]? = some (0, 8) := rfl
theorem sh_9 : x_SH[9]? = some (1, 200) := rfl
theorem sh_10 : x_SH[10]? = some (1, 96) := rfl
theorem sh_11 : x_SH[11]? = some (0, 3) := rfl
theorem sh_12 : x_SH[12]? = some (1, 8) := rfl
theorem sh_13 : x_SH[13]? = some (1, 8) := rfl
theorem sh_14 : x_SH[14]? = some (1, 8) := rfl
theorem sh_15 : x_SH[15]? = some (1, 8) := rfl
theorem sh_16 : x_SH[16]? = some (0, 5) := rfl
theorem sh_17 : x_SH[17]? = some (1, 8) := rfl
theorem sh_18 : x_SH[18]? = some (1, 8) := rfl
theorem sh_19 : x_SH[19]? = some (1, 8) := rfl
theorem sh_20 : x_SH[20]? = some (0, 4) := rfl
theorem sh_21 : x_SH[21]? = some (1, 64) := rfl
theorem sh_22 : x_SH[22]? = some (1, 64) := rfl
theorem sh_23 : x_SH[23]? = some (2, 256) := rfl
theorem sh_24 : x_SH[24]? = some (0, 6) := rfl
theorem sh_25 : x_SH[25]? = some (1, 8) := rfl
theorem sh_26 : x_SH[26]? = some (0, 7) := rfl
theorem sh_27 : x_SH[27]? = some (1, 8) := rfl
theorem sh_28 : x_SH[28]? = some (1, 8) := rfl
theorem sh_29 : x_SH[29]? = some (0, 6) := rfl
theorem sh_30 : x_SH[30]? = some (1, 8) := rfl
theorem sh_31 : x_SH[31]? = some (0, 0) := rfl
theorem sh_32 : x_SH[32]? = some (0, 6) := rfl
theorem sh_33 : x_SH[33]? = some (1, 8) := rfl
theorem sh_34 : x_SH[34]? = some (1, 8) := rfl
theorem sh_35 : x_SH[35]? = some (1, 8) := rfl
theorem sh_36 : x_SH[36]? = some (1, 8) := rfl
theorem sh_37 : x_SH[37]? = some (1, 8) := rfl
theorem sh_38 : x_SH[38]? = some (1, 8) := rfl
theorem sh_39 : x_SH[39]? = some (1, 8) := rfl
theorem sh_40 : x_SH[40]? = some (0, 7) := rfl
theorem sh_41 : x_SH[41]? = some (1, 8) := rfl
theorem sh_42 : x_SH[42]? = some (1, 8) := rfl
theorem sh_43 : x_SH[43]? = some (0, 1) := rfl
theorem sh_44 : x_SH[44]? = some (0, 7) := rfl
theorem sh_45 : x_SH[45]? = some (1, 16) := rfl
theorem sh_46 : x_SH[46]? = some (1, 16) := rfl
theorem sh_47 : x_SH[47]? = some (0, 6) := rfl
theorem sh_48 : x_SH[48]? = some (1, 21) := rfl
theorem sh_49 : x_SH[49]? = some (1, 64) := rfl
theorem rf_0 : x_RF 0 = some 1 := by decide +kernel
theorem rf_1 : x_RF 1 = some 8 := by decide +kernel
theorem rf_2 : x_RF 2 = some 11 := by decide +kernel
theorem rf_3 : x_RF 3 = some 16 := by decide +kernel
theorem rf_4 : x_RF 4 = some 20 := by decide +kernel
theorem rf_5 : x_RF 5 = some 26 := by decide +kernel
theorem rf_6 : x_RF 6 = some 29 := by decide +kernel
theorem rf_7 : x_RF 7 = some 31 := by decide +kernel
theorem rf_8 : x_RF 8 = some 43 := by decide +kernel
theorem rf_67 : x_RF 67 = some 2 := by decide +kernel
theorem rf_68 : x_RF 68 = some 3 := by decide +kernel
theorem rf_69 : x_RF 69 = some 4 := by decide +kernel
theorem rf_70 : x_RF 70 = some 5 := by decide +kernel
theorem rf_71 : x_RF 71 = some 6 := by decide +kernel
theorem rf_72 : x_RF 72 = some 7 := by decide +kernel
theorem rf_512 : x_RF 512 = some 1 := by decide +kernel
theorem rf_513 : x_RF 513 = some 9 := by decide +kernel
theorem rf_516 : x_RF 516 = some 10 := by decide +kernel
theorem rf_704 : x_RF 704 = some 1 := by decide +kernel
theorem rf_705 : x_RF 705 = some 12 := by decide +kernel
theorem rf_706 : x_RF 706 = some 13 := by decide +kernel
theorem rf_707 : x_RF 707 = some 14 := by decide +kernel
theorem rf_708 : x_RF 708 = some 15 := by decide +kernel
theorem rf_1024 : x_RF 1024 = some 1 := by decide +kernel
theorem rf_1025 : x_RF 1025 = some 17 := by decide +kernel
theorem rf_1026 : x_RF 1026 = some 18 := by decide +kernel
theorem rf_1027 : x_RF 1027 = some 19 := by decide +kernel
theorem rf_1280 : x_RF 1280 = some 1 := by decide +kernel
theorem rf_1281 : x_RF 1281 = some 16 := by decide +kernel
theorem rf_1282 : x_RF 1282 = some 21 := by decide +kernel
theorem rf_1283 : x_RF 1283 = some 22 := by decide +kernel
theorem rf_1284 : x_RF 1284 = some 23 := by decide +kernel
theorem rf_1285 : x_RF 1285 = some 24 := by decide +kernel
theorem rf_1536 : x_RF 1536 = some 25 := by decide +kernel
theorem rf_1664 : x_RF 1664 = some 27 := by decide +kernel
theorem rf_1665 : x_RF 1665 = some 28 := by decide +kernel
theorem rf_1856 : x_RF 1856 = some 30 := by decide +kernel
theorem rf_1984 : x_RF 1984 = some 1 := by decide +kernel
theorem rf_1985 : x_RF 1985 = some 16 := by decide +kernel
theorem rf_1986 : x_RF 1986 = some 32 := by decide +kernel
theorem rf_1987 : x_RF 1987 = some 34 := by decide +kernel
theorem rf_1988 : x_RF 1988 = some 35 := by decide +kernel
theorem rf_1989 : x_RF 1989 = some 36 := by decide +kernel
theorem rf_1990 : x_RF 1990 = some 37 := by decide +kernel
theorem rf_1991 : x_RF 1991 = some 38 := by decide +kernel
theorem rf_1992 : x_RF 1992 = some 39 := by decide +kernel
theorem rf_1993 : x_RF 1993 = some 40 := by decide +kernel
theorem rf_2048 : x_RF 2048 = some 33 := by decide +kernel
theorem rf_2560 : x_RF 2560 = some 41 := by decide +kernel
theorem rf_2561 : x_RF 2561 = some 42 := by decide +kernel
theorem rf_2752 : x_RF 2752 = some 1 := by decide +kernel
theorem rf_2753 : x_RF 2753 = some 16 := by decide +kernel
theorem rf_2754 : x_RF 2754 = some 31 := by decide +kernel
theorem rf_2755 : x_RF 2755 = some 44 := by decide +kernel
theorem rf_2756 : x_RF 2756 = some 47 := by decide +kernel
theorem rf_2816 : x_RF 2816 = some 45 := by decide +kernel
theorem rf_2817 : x_RF 2817 = some 46 := by decide +kernel
theorem rf_3008 : x_RF 3008 = some 48 := by decide +kernel
def x_Q (Q : Option Value → (Nat → Nat → Int32) → (Nat → Int64) → Prop) : Option Value → x_M → Prop := fun r M' => M'.1 = x_SH ∧ M'.2.2.2 = x_RF ∧ Q r M'.2.1 M'.2.2.1
abbrev XS (m : x_Mth) (pc : Nat) (ls : List (Nat × Value)) (st : List Value) (I : Nat → Nat → Int32) (L : Nat → Int64) (Q : Option Value → (Nat → Nat → Int32) → (Nat → Int64) → Prop) : Prop := X none m (0, 0) pc ls st (x_SH, I, L, x_RF) (x_Q Q)
theorem xs_mono {m : x_Mth} {pc : Nat} {ls : List (Nat × Value)} {st : List Value} {I : Nat → Nat → Int32} {L : Nat → Int64} {Q Q' : Option Value → (Nat → Nat → Int32) → (Nat → Int64) → Prop} (h : XS m pc ls st I L Q) (hq : ∀ r I' L', Q r I' L' → Q' r I' L') : XS m pc ls st I L Q' :=
  x_mono h (fun r M' q => ⟨q.1, q.2.1, hq _ _ _ q.2.2⟩)
def x_isint : FieldType → Bool
  | .int => true
  | .boolean => true
  | _ => false
def x_isref : FieldType → Bool
  | .object _ => true
  | .array _ => true
  | _ => false
theorem xs_geti {m : x_Mth} {pc : Nat} {ls : List (Nat × Value)} {st : List Value} {I : Nat → Nat → Int32} {L : Nat → Int64} {Q : Option Value → (Nat → Nat → Int32) → (Nat → Int64) → Prop} {idx ci j o : Nat} (r : Nat) (hd : decode (x_code m) pc = .ok (.getfield idx, 3)) (hf : x_FL (x_own m) idx ci j) (ho : x_SH[o]? = some (0, ci)) (hty : x_isint (x_ty ci j) = true) (hr : 64 * o + j = r)
    (K : XS m (pc + 3) ls (.int (I r 0) :: st) I L Q) : XS m pc ls (.ref o :: st) I L Q := by
  subst hr
  refine x_getf ci j _ hd hf ho ?_ K
  cases h : x_ty ci j <;> rw [h] at hty <;> simp [x_isint] at hty <;> simp [x_fa]
theorem xs_getl {m : x_Mth} {pc : Nat} {ls : List (Nat × Value)} {st : List Value} {I : Nat → Nat → Int32} {L : Nat → Int64} {Q : Option Value → (Nat → Nat → Int32) → (Nat → Int64) → Prop} {idx ci j o : Nat} (r : Nat) (hd : decode (x_code m) pc = .ok (.getfield idx, 3)) (hf : x_FL (x_own m) idx ci j) (ho : x_SH[o]? = some (0, ci)) (hty : x_ty ci j = .long) (hr : 64 * o + j = r)
    (K : XS m (pc + 3) ls (.long (L r) :: st) I L Q) : XS m pc ls (.ref o :: st) I L Q := by
  subst hr
  refine x_getf ci j _ hd hf ho ?_ K
  rw [hty]
  simp [x_fa]
theorem xs_getr {m : x_Mth} {pc : Nat} {ls : List (Nat × Value)} {st : List Value} {I : Nat → Nat → Int32} {L : Nat → Int64} {Q : Option Value → (Nat → Nat → Int32) → (Nat → Int64) → Prop} {idx ci j o k : Nat} (hd : decode (x_code m) pc = .ok (.getfield idx, 3)) (hf : x_FL (x_own m) idx ci j) (ho : x_SH[o]? = some (0, ci)) (hty : x_isref (x_ty ci j) = true) (hr : x_RF (64 * o + j) = some k)
    (K : XS m (pc + 3) ls (.ref k :: st) I L Q) : XS m pc ls (.ref o :: st) I L Q := by
  refine x_getf ci j _ hd hf ho ?_ K
  cases h : x_ty ci j <;> rw [h] at hty <;> simp [x_isref] at hty <;> simp [x_fa, hr]
theorem xs_puti {m : x_Mth} {pc : Nat} {ls : List (Nat × Value)} {st : List Value} {I : Nat → Nat → Int32} {L : Nat → Int64} {Q : Option Value → (Nat → Nat → Int32) → (Nat → Int64) → Prop} {idx ci j o : Nat} {v : Int32} (r : Nat) (hd : decode (x_code m) pc = .ok (.putfield idx, 3)) (hf : x_FL (x_own m) idx ci j) (ho : x_SH[o]? = some (0, ci)) (hty : x_ty ci j = .int) (hfin : (x_T ci j).2.2.2 = false) (hr : 64 * o + j = r)
    (K : XS m (pc + 3) ls st (x_up I r 0 v) L Q) : XS m pc ls (.int v :: .ref o :: st) I L Q := by
  subst hr
  exact x_puti ci j hd hf ho hty (Or.inl hfin) K
theorem xs_putz {m : x_Mth} {pc : Nat} {ls : List (Nat × Value)} {st : List Value} {I : Nat → Nat → Int32} {L : Nat → Int64} {Q : Option Value → (Nat → Nat → Int32) → (Nat → Int64) → Prop} {idx ci j o : Nat} {v : Int32} (r : Nat) (hd : decode (x_code m) pc = .ok (.putfield idx, 3)) (hf : x_FL (x_own m) idx ci j) (ho : x_SH[o]? = some (0, ci)) (hty : x_ty ci j = .boolean) (h01 : v = 0 ∨ v = 1) (hfin : (x_T ci j).2.2.2 = false) (hr : 64 * o + j = r)
    (K : XS m (pc + 3) ls st (x_up I r 0 v) L Q) : XS m pc ls (.int v :: .ref o :: st) I L Q := by
  subst hr
  exact x_putz ci j hd hf ho hty h01 (Or.inl hfin) K
theorem xs_putl {m : x_Mth} {pc : Nat} {ls : List (Nat × Value)} {st : List Value} {I : Nat → Nat → Int32} {L : Nat → Int64} {Q : Option Value → (Nat → Nat → Int32) → (Nat → Int64) → Prop} {idx ci j o : Nat} {v : Int64} (r : Nat) (hd : decode (x_code m) pc = .ok (.putfield idx, 3)) (hf : x_FL (x_own m) idx ci j) (ho : x_SH[o]? = some (0, ci)) (hty : x_ty ci j = .long) (hfin : (x_T ci j).2.2.2 = false) (hr : 64 * o + j = r)
    (K : XS m (pc + 3) ls st I (x_upL L r v) Q) : XS m pc ls (.long v :: .ref o :: st) I L Q := by
  subst hr
  exact x_putl ci j hd hf ho hty (Or.inl hfin) K
theorem xs_iald {m : x_Mth} {pc : Nat} {ls : List (Nat × Value)} {st : List Value} {I : Nat → Nat → Int32} {L : Nat → Int64} {Q : Option Value → (Nat → Nat → Int32) → (Nat → Int64) → Prop} {o n : Nat} {i : Int32} (r k : Nat) (hd : decode (x_code m) pc = .ok (.iaload, 1)) (ho : x_SH[o]? = some (1, n)) (hr : 64 * o = r) (hk : i.toNatClampNeg = k) (hin : vp_in i n)
    (K : XS m (pc + 1) ls (.int (I r k) :: st) I L Q) : XS m pc ls (.int i :: .ref o :: st) I L Q := by
  subst hr; subst hk
  exact x_iald hd ho hin K
theorem xs_zald {m : x_Mth} {pc : Nat} {ls : List (Nat × Value)} {st : List Value} {I : Nat → Nat → Int32} {L : Nat → Int64} {Q : Option Value → (Nat → Nat → Int32) → (Nat → Int64) → Prop} {o n : Nat} {i : Int32} (r k : Nat) (hd : decode (x_code m) pc = .ok (.baload, 1)) (ho : x_SH[o]? = some (2, n)) (hr : 64 * o = r) (hk : i.toNatClampNeg = k) (hin : vp_in i n)
    (K : XS m (pc + 1) ls (.int (I r k) :: st) I L Q) : XS m pc ls (.int i :: .ref o :: st) I L Q := by
  subst hr; subst hk
  exact x_zald hd ho hin K
theorem xs_iast {m : x_Mth} {pc : Nat} {ls : List (Nat × Value)} {st : List Value} {I : Nat → Nat → Int32} {L : Nat → Int64} {Q : Option Value → (Nat → Nat → Int32) → (Nat → Int64) → Prop} {o n : Nat} {i x : Int32} (r k : Nat) (hd : decode (x_code m) pc = .ok (.iastore, 1)) (ho : x_SH[o]? = some (1, n)) (hr : 64 * o = r) (hk : i.toNatClampNeg = k) (hin : vp_in i n)
    (K : XS m (pc + 1) ls st (x_up I r k x) L Q) : XS m pc ls (.int x :: .int i :: .ref o :: st) I L Q := by
  subst hr; subst hk
  exact x_iast hd ho hin K
theorem xs_zast {m : x_Mth} {pc : Nat} {ls : List (Nat × Value)} {st : List Value} {I : Nat → Nat → Int32} {L : Nat → Int64} {Q : Option Value → (Nat → Nat → Int32) → (Nat → Int64) → Prop} {o n : Nat} {i x : Int32} (r k : Nat) (hd : decode (x_code m) pc = .ok (.bastore, 1)) (ho : x_SH[o]? = some (2, n)) (hr : 64 * o = r) (hk : i.toNatClampNeg = k) (hin : vp_in i n) (h01 : x = 0 ∨ x = 1)
    (K : XS m (pc + 1) ls st (x_up I r k x) L Q) : XS m pc ls (.int x :: .int i :: .ref o :: st) I L Q := by
  subst hr; subst hk
  exact x_zast hd ho hin h01 K
theorem xs_callQ {m m' : x_Mth} {pc : Nat} {ls args : List (Nat × Value)} {rest : List Value} {I : Nat → Nat → Int32} {L : Nat → Int64} {Q : Option Value → (Nat → Nat → Int32) → (Nat → Int64) → Prop} (h0 : x_mc m' = 0 ∧ x_ms m' = 0) (K : XS m' 0 args [] I L (fun r I' L' => XS m (pc + 3) ls (r.toList ++ rest) I' L' Q)) :
    X none m' (0, 0) 0 args [] (x_SH, I, L, x_RF) (fun r M' => X none m (0 + x_mc m', 0 + x_ms m') (pc + 3) ls (r.toList ++ rest) M' (x_Q Q)) := by
  refine x_mono K ?_
  rintro r ⟨a, I', L', R'⟩ ⟨h1, h2, h⟩
  dsimp only at h1 h2
  subst h1; subst h2
  rw [h0.1, h0.2]
  exact h
theorem xs_callV {m : x_Mth} {pc : Nat} {ls : List (Nat × Value)} {I : Nat → Nat → Int32} {L : Nat → Int64} {Q : Option Value → (Nat → Nat → Int32) → (Nat → Int64) → Prop} {idx : Nat} (m' : x_Mth) (As rest : List Value) (b ci n : Nat) (st : List Value) (hst : st = As.reverse ++ .ref b :: rest) (hd : decode (x_code m) pc = .ok (.invokevirtual idx, 3)) (hl : Cond.methodLink (x_own m) idx (x_y m') ∈ x_GW) (hm : x_MV m' n) (hn : As.length = n)
    (hR : x_fr m' + 1 ≤ x_fr m ∧ 8 + (x_maxL m' + 11) + x_lo m' ≤ x_lo m) (h0 : x_mc m' = 0 ∧ x_ms m' = 0) (hw : x_cat rest ≤ 8) (ho : x_SH[b]? = some (0, ci)) (hci : ci < 10) (hcl : (x_y m').cls = x_R ci) (hlen : (lg_sl (.ref b :: As)).length ≤ x_maxL m')
    (K : XS m' 0 (lv_args 0 (.ref b :: As)) [] I L (fun r I' L' => XS m (pc + 3) ls (r.toList ++ rest) I' L' Q)) : XS m pc ls st I L Q :=
  x_callV m' As rest b ci n st hst hd hl hm hn hR ⟨by rw [h0.1]; exact Nat.zero_le _, by rw [h0.2]; exact Nat.zero_le _⟩ hw ho hci hcl hlen (Or.inl h0.1) (xs_callQ h0 K)
theorem xs_callS {m : x_Mth} {pc : Nat} {ls : List (Nat × Value)} {I : Nat → Nat → Int32} {L : Nat → Int64} {Q : Option Value → (Nat → Nat → Int32) → (Nat → Int64) → Prop} {idx : Nat} (m' : x_Mth) (As rest : List Value) (n : Nat) (st : List Value) (hst : st = As.reverse ++ rest) (hd : decode (x_code m) pc = .ok (.invokestatic idx, 3)) (hl : Cond.methodLink (x_own m) idx (x_y m') ∈ x_GW) (hm : x_MS m' n) (hn : As.length = n)
    (hR : x_fr m' + 1 ≤ x_fr m ∧ 8 + (x_maxL m' + 11) + x_lo m' ≤ x_lo m) (h0 : x_mc m' = 0 ∧ x_ms m' = 0) (hw : x_cat rest ≤ 8) (hlen : (lg_sl As).length ≤ x_maxL m')
    (K : XS m' 0 (lv_args 0 As) [] I L (fun r I' L' => XS m (pc + 3) ls (r.toList ++ rest) I' L' Q)) : XS m pc ls st I L Q :=
  x_callS m' As rest n st hst hd hl hm hn hR ⟨by rw [h0.1]; exact Nat.zero_le _, by rw [h0.2]; exact Nat.zero_le _⟩ hw hlen (Or.inl h0.1) (xs_callQ h0 K)
theorem xs_callT {m : x_Mth} {pc : Nat} {ls : List (Nat × Value)} {I : Nat → Nat → Int32} {L : Nat → Int64} {Q : Option Value → (Nat → Nat → Int32) → (Nat → Int64) → Prop} {idx : Nat} (m' : x_Mth) (As rest : List Value) (i n : Nat) (st : List Value) (hi : i < 2) (hst : st = As.reverse ++ .ref (1000000 + i) :: rest) (hd : decode (x_code m) pc = .ok (.invokevirtual idx, 3)) (hl : Cond.methodLink (x_own m) idx (x_y m') ∈ x_GW) (hm : x_MV m' n) (hn : As.length = n)
    (hR : x_fr m' + 1 ≤ x_fr m ∧ 8 + (x_maxL m' + 11) + x_lo m' ≤ x_lo m) (h0 : x_mc m' = 0 ∧ x_ms m' = 0) (hw : x_cat rest ≤ 8) (hcl : (x_y m').cls = "java/lang/String") (hlen : (lg_sl (.ref (1000000 + i) :: As)).length ≤ x_maxL m')
    (K : XS m' 0 (lv_args 0 (.ref (1000000 + i) :: As)) [] I L (fun r I' L' => XS m (pc + 3) ls (r.toList ++ rest) I' L' Q)) : XS m pc ls st I L Q :=
  x_callT m' As rest i n st hi hst hd hl hm hn hR ⟨by rw [h0.1]; exact Nat.zero_le _, by rw [h0.2]; exact Nat.zero_le _⟩ hw hcl hlen (Or.inl h0.1) (xs_callQ h0 K)
theorem xs_end {m : x_Mth} {pc : Nat} {ls : List (Nat × Value)} {I : Nat → Nat → Int32} {L : Nat → Int64} {Q : Option Value → (Nat → Nat → Int32) → (Nat → Int64) → Prop} (hd : decode (x_code m) pc = .ok (.return_, 1)) (hr : x_ret m = none) (K : Q none I L) : XS m pc ls [] I L Q := x_end (st := []) hd hr ⟨rfl, rfl, K⟩
theorem xs_iret {m : x_Mth} {pc : Nat} {ls : List (Nat × Value)} {I : Nat → Nat → Int32} {L : Nat → Int64} {Q : Option Value → (Nat → Nat → Int32) → (Nat → Int64) → Prop} {v : Int32} {ty : FieldType} (hd : decode (x_code m) pc = .ok (.ireturn, 1)) (hr : x_ret m = some ty) (hn : narrow ty (.int v) = .int v) (K : Q (some (.int v)) I L) : XS m pc ls [.int v] I L Q := x_iret (st := []) hd hr hn ⟨rfl, rfl, K⟩
theorem xs_lret {m : x_Mth} {pc : Nat} {ls : List (Nat × Value)} {I : Nat → Nat → Int32} {L : Nat → Int64} {Q : Option Value → (Nat → Nat → Int32) → (Nat → Int64) → Prop} {v : Int64} (hd : decode (x_code m) pc = .ok (.lreturn, 1)) (hr : x_ret m = some .long) (K : Q (some (.long v)) I L) : XS m pc ls [.long v] I L Q := x_lret (st := []) hd hr ⟨rfl, rfl, K⟩
theorem x_nar (v : Int32) (h : v = 0 ∨ v = 1) : narrow .boolean (.int v) = .int v := by rcases h with rfl | rfl <;> rfl
theorem x_vpin {i : Int32} {n : Nat} (h : (¬ (i < 0 ∨ n ≤ i.toNatClampNeg))) : vp_in i n := h
theorem x_swcase {x : Int32} (lo : Int) (n : Nat) (h1 : ¬ x.toInt < lo) (h2 : ¬ lo + n < x.toInt) : ∃ k : Nat, k ≤ n ∧ x.toInt = lo + k := ⟨(x.toInt - lo).toNat, by omega, by omega⟩
theorem x_toI {x : Int32} {n : Int} (v : Int32) (h : x.toInt = n) (hv : v.toInt = n) : x = v := Int32.toInt_inj.mp (h.trans hv.symm)
