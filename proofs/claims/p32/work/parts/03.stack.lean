/-! ===== single instructions over stack and locals ===== -/
theorem x_iadd {scr : Option (Nat × (Nat → Int32))} {m : x_Mth} {u : Nat × Nat} {pc : Nat} {ls : List (Nat × Value)} {st : List Value} {M : x_M} {Q : Option Value → x_M → Prop} {x y : Int32} (hd : decode (x_code m) pc = .ok (.iadd, 1))  (K : X scr m u (pc + 1) ls (.int (x + y) :: st) M Q) : X scr m u pc ls (.int y :: .int x :: st) M Q :=
  x_W (fun p l e s mi args below meth c H locs lx Z ad hx hb hl ho ht k => lv_iadd hx hb hd k) K
theorem x_isub {scr : Option (Nat × (Nat → Int32))} {m : x_Mth} {u : Nat × Nat} {pc : Nat} {ls : List (Nat × Value)} {st : List Value} {M : x_M} {Q : Option Value → x_M → Prop} {x y : Int32} (hd : decode (x_code m) pc = .ok (.isub, 1))  (K : X scr m u (pc + 1) ls (.int (x - y) :: st) M Q) : X scr m u pc ls (.int y :: .int x :: st) M Q :=
  x_W (fun p l e s mi args below meth c H locs lx Z ad hx hb hl ho ht k => lv_isub hx hb hd k) K
theorem x_imul {scr : Option (Nat × (Nat → Int32))} {m : x_Mth} {u : Nat × Nat} {pc : Nat} {ls : List (Nat × Value)} {st : List Value} {M : x_M} {Q : Option Value → x_M → Prop} {x y : Int32} (hd : decode (x_code m) pc = .ok (.imul, 1))  (K : X scr m u (pc + 1) ls (.int (x * y) :: st) M Q) : X scr m u pc ls (.int y :: .int x :: st) M Q :=
  x_W (fun p l e s mi args below meth c H locs lx Z ad hx hb hl ho ht k => lv_imul hx hb hd k) K
theorem x_iand {scr : Option (Nat × (Nat → Int32))} {m : x_Mth} {u : Nat × Nat} {pc : Nat} {ls : List (Nat × Value)} {st : List Value} {M : x_M} {Q : Option Value → x_M → Prop} {x y : Int32} (hd : decode (x_code m) pc = .ok (.iand, 1))  (K : X scr m u (pc + 1) ls (.int (x &&& y) :: st) M Q) : X scr m u pc ls (.int y :: .int x :: st) M Q :=
  x_W (fun p l e s mi args below meth c H locs lx Z ad hx hb hl ho ht k => lv_iand hx hb hd k) K
theorem x_ior {scr : Option (Nat × (Nat → Int32))} {m : x_Mth} {u : Nat × Nat} {pc : Nat} {ls : List (Nat × Value)} {st : List Value} {M : x_M} {Q : Option Value → x_M → Prop} {x y : Int32} (hd : decode (x_code m) pc = .ok (.ior, 1))  (K : X scr m u (pc + 1) ls (.int (x ||| y) :: st) M Q) : X scr m u pc ls (.int y :: .int x :: st) M Q :=
  x_W (fun p l e s mi args below meth c H locs lx Z ad hx hb hl ho ht k => lv_ior hx hb hd k) K
theorem x_ixor {scr : Option (Nat × (Nat → Int32))} {m : x_Mth} {u : Nat × Nat} {pc : Nat} {ls : List (Nat × Value)} {st : List Value} {M : x_M} {Q : Option Value → x_M → Prop} {x y : Int32} (hd : decode (x_code m) pc = .ok (.ixor, 1))  (K : X scr m u (pc + 1) ls (.int (x ^^^ y) :: st) M Q) : X scr m u pc ls (.int y :: .int x :: st) M Q :=
  x_W (fun p l e s mi args below meth c H locs lx Z ad hx hb hl ho ht k => lv_ixor hx hb hd k) K
theorem x_ishl {scr : Option (Nat × (Nat → Int32))} {m : x_Mth} {u : Nat × Nat} {pc : Nat} {ls : List (Nat × Value)} {st : List Value} {M : x_M} {Q : Option Value → x_M → Prop} {x y : Int32} (hd : decode (x_code m) pc = .ok (.ishl, 1))  (K : X scr m u (pc + 1) ls (.int (x <<< (y &&& 31)) :: st) M Q) : X scr m u pc ls (.int y :: .int x :: st) M Q :=
  x_W (fun p l e s mi args below meth c H locs lx Z ad hx hb hl ho ht k => lv_ishl hx hb hd k) K
theorem x_ishr {scr : Option (Nat × (Nat → Int32))} {m : x_Mth} {u : Nat × Nat} {pc : Nat} {ls : List (Nat × Value)} {st : List Value} {M : x_M} {Q : Option Value → x_M → Prop} {x y : Int32} (hd : decode (x_code m) pc = .ok (.ishr, 1))  (K : X scr m u (pc + 1) ls (.int (x >>> (y &&& 31)) :: st) M Q) : X scr m u pc ls (.int y :: .int x :: st) M Q :=
  x_W (fun p l e s mi args below meth c H locs lx Z ad hx hb hl ho ht k => lv_ishr hx hb hd k) K
theorem x_idiv {scr : Option (Nat × (Nat → Int32))} {m : x_Mth} {u : Nat × Nat} {pc : Nat} {ls : List (Nat × Value)} {st : List Value} {M : x_M} {Q : Option Value → x_M → Prop} {x y : Int32} (hd : decode (x_code m) pc = .ok (.idiv, 1)) (hn : ¬ y = 0) (K : X scr m u (pc + 1) ls (.int (x / y) :: st) M Q) : X scr m u pc ls (.int y :: .int x :: st) M Q :=
  x_W (fun p l e s mi args below meth c H locs lx Z ad hx hb hl ho ht k => lv_idiv hx hb hd hn k) K
theorem x_irem {scr : Option (Nat × (Nat → Int32))} {m : x_Mth} {u : Nat × Nat} {pc : Nat} {ls : List (Nat × Value)} {st : List Value} {M : x_M} {Q : Option Value → x_M → Prop} {x y : Int32} (hd : decode (x_code m) pc = .ok (.irem, 1)) (hn : ¬ y = 0) (K : X scr m u (pc + 1) ls (.int (x - x / y * y) :: st) M Q) : X scr m u pc ls (.int y :: .int x :: st) M Q :=
  x_W (fun p l e s mi args below meth c H locs lx Z ad hx hb hl ho ht k => lv_irem hx hb hd hn k) K
theorem x_iushr {scr : Option (Nat × (Nat → Int32))} {m : x_Mth} {u : Nat × Nat} {pc : Nat} {ls : List (Nat × Value)} {st : List Value} {M : x_M} {Q : Option Value → x_M → Prop} {x y : Int32} (hd : decode (x_code m) pc = .ok (.iushr, 1))  (K : X scr m u (pc + 1) ls (.int ((x.toUInt32 >>> (y.toUInt32 &&& Int32.toUInt32 31)).toInt32) :: st) M Q) : X scr m u pc ls (.int y :: .int x :: st) M Q :=
  x_W (fun p l e s mi args below meth c H locs lx Z ad hx hb hl ho ht k => lv_iushr hx hb hd rfl k) K
theorem x_ladd {scr : Option (Nat × (Nat → Int32))} {m : x_Mth} {u : Nat × Nat} {pc : Nat} {ls : List (Nat × Value)} {st : List Value} {M : x_M} {Q : Option Value → x_M → Prop} {x y : Int64} (hd : decode (x_code m) pc = .ok (.ladd, 1))  (K : X scr m u (pc + 1) ls (.long (x + y) :: st) M Q) : X scr m u pc ls (.long y :: .long x :: st) M Q :=
  x_W (fun p l e s mi args below meth c H locs lx Z ad hx hb hl ho ht k => lv_ladd hx hb hd k) K
theorem x_lsub {scr : Option (Nat × (Nat → Int32))} {m : x_Mth} {u : Nat × Nat} {pc : Nat} {ls : List (Nat × Value)} {st : List Value} {M : x_M} {Q : Option Value → x_M → Prop} {x y : Int64} (hd : decode (x_code m) pc = .ok (.lsub, 1))  (K : X scr m u (pc + 1) ls (.long (x - y) :: st) M Q) : X scr m u pc ls (.long y :: .long x :: st) M Q :=
  x_W (fun p l e s mi args below meth c H locs lx Z ad hx hb hl ho ht k => lv_lsub hx hb hd k) K
theorem x_land {scr : Option (Nat × (Nat → Int32))} {m : x_Mth} {u : Nat × Nat} {pc : Nat} {ls : List (Nat × Value)} {st : List Value} {M : x_M} {Q : Option Value → x_M → Prop} {x y : Int64} (hd : decode (x_code m) pc = .ok (.land, 1))  (K : X scr m u (pc + 1) ls (.long (x &&& y) :: st) M Q) : X scr m u pc ls (.long y :: .long x :: st) M Q :=
  x_W (fun p l e s mi args below meth c H locs lx Z ad hx hb hl ho ht k => lv_land hx hb hd k) K
theorem x_lor {scr : Option (Nat × (Nat → Int32))} {m : x_Mth} {u : Nat × Nat} {pc : Nat} {ls : List (Nat × Value)} {st : List Value} {M : x_M} {Q : Option Value → x_M → Prop} {x y : Int64} (hd : decode (x_code m) pc = .ok (.lor, 1))  (K : X scr m u (pc + 1) ls (.long (x ||| y) :: st) M Q) : X scr m u pc ls (.long y :: .long x :: st) M Q :=
  x_W (fun p l e s mi args below meth c H locs lx Z ad hx hb hl ho ht k => lv_lor hx hb hd k) K
theorem x_lushr {scr : Option (Nat × (Nat → Int32))} {m : x_Mth} {u : Nat × Nat} {pc : Nat} {ls : List (Nat × Value)} {st : List Value} {M : x_M} {Q : Option Value → x_M → Prop} {x : Int64} {y : Int32} (hd : decode (x_code m) pc = .ok (.lushr, 1))  (K : X scr m u (pc + 1) ls (.long ((x.toUInt64 >>> (y.toInt64.toUInt64 &&& Int64.toUInt64 63)).toInt64) :: st) M Q) : X scr m u pc ls (.int y :: .long x :: st) M Q :=
  x_W (fun p l e s mi args below meth c H locs lx Z ad hx hb hl ho ht k => lv_lushr hx hb hd rfl k) K
theorem x_lshl {scr : Option (Nat × (Nat → Int32))} {m : x_Mth} {u : Nat × Nat} {pc : Nat} {ls : List (Nat × Value)} {st : List Value} {M : x_M} {Q : Option Value → x_M → Prop} {x : Int64} {y : Int32} (hd : decode (x_code m) pc = .ok (.lshl, 1))  (K : X scr m u (pc + 1) ls (.long (x <<< (y.toInt64 &&& 63)) :: st) M Q) : X scr m u pc ls (.int y :: .long x :: st) M Q :=
  x_W (fun p l e s mi args below meth c H locs lx Z ad hx hb hl ho ht k => lv_lshl hx hb hd rfl k) K
theorem x_lcmp {scr : Option (Nat × (Nat → Int32))} {m : x_Mth} {u : Nat × Nat} {pc : Nat} {ls : List (Nat × Value)} {st : List Value} {M : x_M} {Q : Option Value → x_M → Prop} {x y : Int64} (hd : decode (x_code m) pc = .ok (.lcmp, 1))  (K : X scr m u (pc + 1) ls (.int (lg_cmp x y) :: st) M Q) : X scr m u pc ls (.long y :: .long x :: st) M Q :=
  x_W (fun p l e s mi args below meth c H locs lx Z ad hx hb hl ho ht k => W.lcmp hx hb hd k) K
theorem x_l2i {scr : Option (Nat × (Nat → Int32))} {m : x_Mth} {u : Nat × Nat} {pc : Nat} {ls : List (Nat × Value)} {st : List Value} {M : x_M} {Q : Option Value → x_M → Prop} {x : Int64} (hd : decode (x_code m) pc = .ok (.l2i, 1))  (K : X scr m u (pc + 1) ls (.int x.toInt32 :: st) M Q) : X scr m u pc ls (.long x :: st) M Q :=
  x_W (fun p l e s mi args below meth c H locs lx Z ad hx hb hl ho ht k => lv_l2i hx hb hd rfl k) K
theorem x_i2c {scr : Option (Nat × (Nat → Int32))} {m : x_Mth} {u : Nat × Nat} {pc : Nat} {ls : List (Nat × Value)} {st : List Value} {M : x_M} {Q : Option Value → x_M → Prop} {x : Int32} (hd : decode (x_code m) pc = .ok (.i2c, 1))  (K : X scr m u (pc + 1) ls (.int (x.toUInt32 % 65536).toInt32 :: st) M Q) : X scr m u pc ls (.int x :: st) M Q :=
  x_W (fun p l e s mi args below meth c H locs lx Z ad hx hb hl ho ht k => lv_i2c hx hb hd rfl k) K
theorem x_iconst {scr : Option (Nat × (Nat → Int32))} {m : x_Mth} {u : Nat × Nat} {pc : Nat} {ls : List (Nat × Value)} {st : List Value} {M : x_M} {Q : Option Value → x_M → Prop} {n : Int} {v : Int32} (hd : decode (x_code m) pc = .ok (.iconst n, 1)) (hv : Int32.ofInt n = v) (K : X scr m u (pc + 1) ls (.int v :: st) M Q) : X scr m u pc ls (st) M Q :=
  x_W (fun p l e s mi args below meth c H locs lx Z ad hx hb hl ho ht k => lv_iconst hx hb hd hv k) K
theorem x_bipush {scr : Option (Nat × (Nat → Int32))} {m : x_Mth} {u : Nat × Nat} {pc : Nat} {ls : List (Nat × Value)} {st : List Value} {M : x_M} {Q : Option Value → x_M → Prop} {n : Int} {v : Int32} (hd : decode (x_code m) pc = .ok (.bipush n, 2)) (hv : (Int8.ofInt n).toInt32 = v) (K : X scr m u (pc + 2) ls (.int v :: st) M Q) : X scr m u pc ls (st) M Q :=
  x_W (fun p l e s mi args below meth c H locs lx Z ad hx hb hl ho ht k => lv_bipush hx hb hd hv k) K
theorem x_sipush {scr : Option (Nat × (Nat → Int32))} {m : x_Mth} {u : Nat × Nat} {pc : Nat} {ls : List (Nat × Value)} {st : List Value} {M : x_M} {Q : Option Value → x_M → Prop} {n : Int} {v : Int32} (hd : decode (x_code m) pc = .ok (.sipush n, 3)) (hv : (Int16.ofInt n).toInt32 = v) (K : X scr m u (pc + 3) ls (.int v :: st) M Q) : X scr m u pc ls (st) M Q :=
  x_W (fun p l e s mi args below meth c H locs lx Z ad hx hb hl ho ht k => lv_sipush hx hb hd hv k) K
theorem x_lconst {scr : Option (Nat × (Nat → Int32))} {m : x_Mth} {u : Nat × Nat} {pc : Nat} {ls : List (Nat × Value)} {st : List Value} {M : x_M} {Q : Option Value → x_M → Prop} {n : Fin 2} {v : Int64} (hd : decode (x_code m) pc = .ok (.lconst n, 1)) (hv : Int64.ofNat (n : Nat) = v) (K : X scr m u (pc + 1) ls (.long v :: st) M Q) : X scr m u pc ls (st) M Q :=
  x_W (fun p l e s mi args below meth c H locs lx Z ad hx hb hl ho ht k => lv_lconst hx hb hd hv k) K
theorem x_ldcw {scr : Option (Nat × (Nat → Int32))} {m : x_Mth} {u : Nat × Nat} {pc : Nat} {ls : List (Nat × Value)} {st : List Value} {M : x_M} {Q : Option Value → x_M → Prop} {idx : Nat} {v : Int32} (hd : decode (x_code m) pc = .ok (.ldc_w idx, 3)) (hw : Cond.constant (x_own m) idx v ∈ x_GW) (K : X scr m u (pc + 3) ls (.int v :: st) M Q) : X scr m u pc ls (st) M Q :=
  x_W (fun p l e s mi args below meth c H locs lx Z ad hx hb hl ho ht k => lv_ldcw hx hb ho (ht _ hw) hd k) K
theorem x_ldc2 {scr : Option (Nat × (Nat → Int32))} {m : x_Mth} {u : Nat × Nat} {pc : Nat} {ls : List (Nat × Value)} {st : List Value} {M : x_M} {Q : Option Value → x_M → Prop} {idx : Nat} {v : Int64} (hd : decode (x_code m) pc = .ok (.ldc2_w idx, 3)) (hw : Cond.constantLong (x_own m) idx v ∈ x_GW) (K : X scr m u (pc + 3) ls (.long v :: st) M Q) : X scr m u pc ls (st) M Q :=
  x_W (fun p l e s mi args below meth c H locs lx Z ad hx hb hl ho ht k => lv_ldc2 hx hb ho (ht _ hw) hd k) K
theorem x_iload_n {scr : Option (Nat × (Nat → Int32))} {m : x_Mth} {u : Nat × Nat} {pc : Nat} {ls : List (Nat × Value)} {st : List Value} {M : x_M} {Q : Option Value → x_M → Prop} {k : Fin 4} {i : Nat} {x : Int32} (q : Nat) (hd : decode (x_code m) pc = .ok (.iload_n k, 1)) (hi : (k : Nat) = i) (hq : ls[q]? = some (i, .int x)) (K : X scr m u (pc + 1) ls (.int x :: st) M Q) : X scr m u pc ls (st) M Q :=
  x_W (fun p l e s mi args below meth c H locs lx Z ad hx hb hl ho ht k => lv_iload_n hx hb hd hi (lv_at hl q (by simp [x_lp, hq, x_cv])) k) K
theorem x_lload_n {scr : Option (Nat × (Nat → Int32))} {m : x_Mth} {u : Nat × Nat} {pc : Nat} {ls : List (Nat × Value)} {st : List Value} {M : x_M} {Q : Option Value → x_M → Prop} {k : Fin 4} {i : Nat} {x : Int64} (q : Nat) (hd : decode (x_code m) pc = .ok (.lload_n k, 1)) (hi : (k : Nat) = i) (hq : ls[q]? = some (i, .long x)) (K : X scr m u (pc + 1) ls (.long x :: st) M Q) : X scr m u pc ls (st) M Q :=
  x_W (fun p l e s mi args below meth c H locs lx Z ad hx hb hl ho ht k => lv_lload_n hx hb hd hi (lv_at hl q (by simp [x_lp, hq, x_cv])) k) K
theorem x_aload_n {scr : Option (Nat × (Nat → Int32))} {m : x_Mth} {u : Nat × Nat} {pc : Nat} {ls : List (Nat × Value)} {st : List Value} {M : x_M} {Q : Option Value → x_M → Prop} {k : Fin 4} {i : Nat} {x : Nat} (q : Nat) (hd : decode (x_code m) pc = .ok (.aload_n k, 1)) (hi : (k : Nat) = i) (hq : ls[q]? = some (i, .ref x)) (K : X scr m u (pc + 1) ls (.ref x :: st) M Q) : X scr m u pc ls (st) M Q :=
  x_W (fun p l e s mi args below meth c H locs lx Z ad hx hb hl ho ht k => lv_aload_n hx hb hd hi (lv_at hl q (by simp [x_lp, hq, x_cv])) k) K
theorem x_iload {scr : Option (Nat × (Nat → Int32))} {m : x_Mth} {u : Nat × Nat} {pc : Nat} {ls : List (Nat × Value)} {st : List Value} {M : x_M} {Q : Option Value → x_M → Prop} {i : Nat} {x : Int32} (q : Nat) (hd : decode (x_code m) pc = .ok (.iload i, 2)) (hq : ls[q]? = some (i, .int x)) (K : X scr m u (pc + 2) ls (.int x :: st) M Q) : X scr m u pc ls (st) M Q :=
  x_W (fun p l e s mi args below meth c H locs lx Z ad hx hb hl ho ht k => lv_iload hx hb hd (lv_at hl q (by simp [x_lp, hq, x_cv])) k) K
theorem x_lload {scr : Option (Nat × (Nat → Int32))} {m : x_Mth} {u : Nat × Nat} {pc : Nat} {ls : List (Nat × Value)} {st : List Value} {M : x_M} {Q : Option Value → x_M → Prop} {i : Nat} {x : Int64} (q : Nat) (hd : decode (x_code m) pc = .ok (.lload i, 2)) (hq : ls[q]? = some (i, .long x)) (K : X scr m u (pc + 2) ls (.long x :: st) M Q) : X scr m u pc ls (st) M Q :=
  x_W (fun p l e s mi args below meth c H locs lx Z ad hx hb hl ho ht k => lv_lload hx hb hd (lv_at hl q (by simp [x_lp, hq, x_cv])) k) K
theorem x_aload {scr : Option (Nat × (Nat → Int32))} {m : x_Mth} {u : Nat × Nat} {pc : Nat} {ls : List (Nat × Value)} {st : List Value} {M : x_M} {Q : Option Value → x_M → Prop} {i : Nat} {x : Nat} (q : Nat) (hd : decode (x_code m) pc = .ok (.aload i, 2)) (hq : ls[q]? = some (i, .ref x)) (K : X scr m u (pc + 2) ls (.ref x :: st) M Q) : X scr m u pc ls (st) M Q :=
  x_W (fun p l e s mi args below meth c H locs lx Z ad hx hb hl ho ht k => lv_aload hx hb hd (lv_at hl q (by simp [x_lp, hq, x_cv])) k) K
theorem x_lvat {ls : List (Nat × Value)} {ad : Nat → Nat} {q i : Nat} {v : Value} (h : ls[q]? = some (i, v)) : (x_lp ad ls)[q]? = some (i, x_cv ad v) := by simp [x_lp, h]
theorem x_dup {scr : Option (Nat × (Nat → Int32))} {m : x_Mth} {u : Nat × Nat} {pc : Nat} {ls : List (Nat × Value)} {st : List Value} {M : x_M} {Q : Option Value → x_M → Prop} {v : Value} (hd : decode (x_code m) pc = .ok (.dup, 1)) (hv : v.category = 1) (K : X scr m u (pc + 1) ls (v :: v :: st) M Q) : X scr m u pc ls (v :: st) M Q :=
  x_W (fun p l e s mi args below meth c H locs lx Z ad hx hb hl ho ht k => lv_dup hx hb hd (by rw [x_cv_cat]; exact hv) k) K
theorem x_dup2 {scr : Option (Nat × (Nat → Int32))} {m : x_Mth} {u : Nat × Nat} {pc : Nat} {ls : List (Nat × Value)} {st : List Value} {M : x_M} {Q : Option Value → x_M → Prop} {v w : Value} (hd : decode (x_code m) pc = .ok (.dup2, 1)) (hv : v.category = 1) (hw : w.category = 1) (K : X scr m u (pc + 1) ls (v :: w :: v :: w :: st) M Q) : X scr m u pc ls (v :: w :: st) M Q :=
  x_W (fun p l e s mi args below meth c H locs lx Z ad hx hb hl ho ht k => lv_dup2_11 hx hb hd (by rw [x_cv_cat]; exact hv) (by rw [x_cv_cat]; exact hw) k) K
theorem x_pop {scr : Option (Nat × (Nat → Int32))} {m : x_Mth} {u : Nat × Nat} {pc : Nat} {ls : List (Nat × Value)} {st : List Value} {M : x_M} {Q : Option Value → x_M → Prop} {v : Value} (hd : decode (x_code m) pc = .ok (.pop, 1)) (hv : v.category = 1) (K : X scr m u (pc + 1) ls (st) M Q) : X scr m u pc ls (v :: st) M Q :=
  x_W (fun p l e s mi args below meth c H locs lx Z ad hx hb hl ho ht k => lv_pop hx hb hd (by rw [x_cv_cat]; exact hv) k) K
theorem x_icmp_eq {scr : Option (Nat × (Nat → Int32))} {m : x_Mth} {u : Nat × Nat} {pc : Nat} {ls : List (Nat × Value)} {st : List Value} {M : x_M} {Q : Option Value → x_M → Prop} {x y : Int32} {off : Int} (tgt : Nat) (hd : decode (x_code m) pc = .ok (.if_icmp .eq off, 3)) (ht : (pc : Int) + off = (tgt : Int)) (K1 : (x = y) → X scr m u tgt ls st M Q) (K2 : ¬ (x = y) → X scr m u (pc + 3) ls st M Q) : X scr m u pc ls (.int y :: .int x :: st) M Q := by
  intro p l e s mi args below meth c D cI cZ A ae al H locs lx Z C R hl hret h1 h2
  exact lv_icmp_eq C.1 C.2.1 hd ht (fun h => K1 h p l e s mi args below meth c D cI cZ A ae al H locs lx Z C R hl hret h1 h2) (fun h => K2 h p l e s mi args below meth c D cI cZ A ae al H locs lx Z C R hl hret h1 h2)
theorem x_icmp_ne {scr : Option (Nat × (Nat → Int32))} {m : x_Mth} {u : Nat × Nat} {pc : Nat} {ls : List (Nat × Value)} {st : List Value} {M : x_M} {Q : Option Value → x_M → Prop} {x y : Int32} {off : Int} (tgt : Nat) (hd : decode (x_code m) pc = .ok (.if_icmp .ne off, 3)) (ht : (pc : Int) + off = (tgt : Int)) (K1 : (¬ x = y) → X scr m u tgt ls st M Q) (K2 : (x = y) → X scr m u (pc + 3) ls st M Q) : X scr m u pc ls (.int y :: .int x :: st) M Q := by
  intro p l e s mi args below meth c D cI cZ A ae al H locs lx Z C R hl hret h1 h2
  exact lv_icmp_ne C.1 C.2.1 hd ht (fun h => K1 h p l e s mi args below meth c D cI cZ A ae al H locs lx Z C R hl hret h1 h2) (fun h => K2 h p l e s mi args below meth c D cI cZ A ae al H locs lx Z C R hl hret h1 h2)
theorem x_icmp_lt {scr : Option (Nat × (Nat → Int32))} {m : x_Mth} {u : Nat × Nat} {pc : Nat} {ls : List (Nat × Value)} {st : List Value} {M : x_M} {Q : Option Value → x_M → Prop} {x y : Int32} {off : Int} (tgt : Nat) (hd : decode (x_code m) pc = .ok (.if_icmp .lt off, 3)) (ht : (pc : Int) + off = (tgt : Int)) (K1 : (x < y) → X scr m u tgt ls st M Q) (K2 : ¬ (x < y) → X scr m u (pc + 3) ls st M Q) : X scr m u pc ls (.int y :: .int x :: st) M Q := by
  intro p l e s mi args below meth c D cI cZ A ae al H locs lx Z C R hl hret h1 h2
  exact lv_icmp_lt C.1 C.2.1 hd ht (fun h => K1 h p l e s mi args below meth c D cI cZ A ae al H locs lx Z C R hl hret h1 h2) (fun h => K2 h p l e s mi args below meth c D cI cZ A ae al H locs lx Z C R hl hret h1 h2)
theorem x_icmp_ge {scr : Option (Nat × (Nat → Int32))} {m : x_Mth} {u : Nat × Nat} {pc : Nat} {ls : List (Nat × Value)} {st : List Value} {M : x_M} {Q : Option Value → x_M → Prop} {x y : Int32} {off : Int} (tgt : Nat) (hd : decode (x_code m) pc = .ok (.if_icmp .ge off, 3)) (ht : (pc : Int) + off = (tgt : Int)) (K1 : (y ≤ x) → X scr m u tgt ls st M Q) (K2 : ¬ (y ≤ x) → X scr m u (pc + 3) ls st M Q) : X scr m u pc ls (.int y :: .int x :: st) M Q := by
  intro p l e s mi args below meth c D cI cZ A ae al H locs lx Z C R hl hret h1 h2
  exact lv_icmp_ge C.1 C.2.1 hd ht (fun h => K1 h p l e s mi args below meth c D cI cZ A ae al H locs lx Z C R hl hret h1 h2) (fun h => K2 h p l e s mi args below meth c D cI cZ A ae al H locs lx Z C R hl hret h1 h2)
theorem x_icmp_gt {scr : Option (Nat × (Nat → Int32))} {m : x_Mth} {u : Nat × Nat} {pc : Nat} {ls : List (Nat × Value)} {st : List Value} {M : x_M} {Q : Option Value → x_M → Prop} {x y : Int32} {off : Int} (tgt : Nat) (hd : decode (x_code m) pc = .ok (.if_icmp .gt off, 3)) (ht : (pc : Int) + off = (tgt : Int)) (K1 : (y < x) → X scr m u tgt ls st M Q) (K2 : ¬ (y < x) → X scr m u (pc + 3) ls st M Q) : X scr m u pc ls (.int y :: .int x :: st) M Q := by
  intro p l e s mi args below meth c D cI cZ A ae al H locs lx Z C R hl hret h1 h2
  exact lv_icmp_gt C.1 C.2.1 hd ht (fun h => K1 h p l e s mi args below meth c D cI cZ A ae al H locs lx Z C R hl hret h1 h2) (fun h => K2 h p l e s mi args below meth c D cI cZ A ae al H locs lx Z C R hl hret h1 h2)
theorem x_icmp_le {scr : Option (Nat × (Nat → Int32))} {m : x_Mth} {u : Nat × Nat} {pc : Nat} {ls : List (Nat × Value)} {st : List Value} {M : x_M} {Q : Option Value → x_M → Prop} {x y : Int32} {off : Int} (tgt : Nat) (hd : decode (x_code m) pc = .ok (.if_icmp .le off, 3)) (ht : (pc : Int) + off = (tgt : Int)) (K1 : (x ≤ y) → X scr m u tgt ls st M Q) (K2 : ¬ (x ≤ y) → X scr m u (pc + 3) ls st M Q) : X scr m u pc ls (.int y :: .int x :: st) M Q := by
  intro p l e s mi args below meth c D cI cZ A ae al H locs lx Z C R hl hret h1 h2
  exact lv_icmp_le C.1 C.2.1 hd ht (fun h => K1 h p l e s mi args below meth c D cI cZ A ae al H locs lx Z C R hl hret h1 h2) (fun h => K2 h p l e s mi args below meth c D cI cZ A ae al H locs lx Z C R hl hret h1 h2)
theorem x_if_eq {scr : Option (Nat × (Nat → Int32))} {m : x_Mth} {u : Nat × Nat} {pc : Nat} {ls : List (Nat × Value)} {st : List Value} {M : x_M} {Q : Option Value → x_M → Prop} {x : Int32} {off : Int} (tgt : Nat) (hd : decode (x_code m) pc = .ok (.ifCond .eq off, 3)) (ht : (pc : Int) + off = (tgt : Int)) (K1 : (x = 0) → X scr m u tgt ls st M Q) (K2 : ¬ (x = 0) → X scr m u (pc + 3) ls st M Q) : X scr m u pc ls (.int x :: st) M Q := by
  intro p l e s mi args below meth c D cI cZ A ae al H locs lx Z C R hl hret h1 h2
  exact lv_if_eq C.1 C.2.1 hd ht (fun h => K1 h p l e s mi args below meth c D cI cZ A ae al H locs lx Z C R hl hret h1 h2) (fun h => K2 h p l e s mi args below meth c D cI cZ A ae al H locs lx Z C R hl hret h1 h2)
theorem x_if_ne {scr : Option (Nat × (Nat → Int32))} {m : x_Mth} {u : Nat × Nat} {pc : Nat} {ls : List (Nat × Value)} {st : List Value} {M : x_M} {Q : Option Value → x_M → Prop} {x : Int32} {off : Int} (tgt : Nat) (hd : decode (x_code m) pc = .ok (.ifCond .ne off, 3)) (ht : (pc : Int) + off = (tgt : Int)) (K1 : (¬ x = 0) → X scr m u tgt ls st M Q) (K2 : (x = 0) → X scr m u (pc + 3) ls st M Q) : X scr m u pc ls (.int x :: st) M Q := by
  intro p l e s mi args below meth c D cI cZ A ae al H locs lx Z C R hl hret h1 h2
  exact lv_if_ne C.1 C.2.1 hd ht (fun h => K1 h p l e s mi args below meth c D cI cZ A ae al H locs lx Z C R hl hret h1 h2) (fun h => K2 h p l e s mi args below meth c D cI cZ A ae al H locs lx Z C R hl hret h1 h2)
theorem x_if_lt {scr : Option (Nat × (Nat → Int32))} {m : x_Mth} {u : Nat × Nat} {pc : Nat} {ls : List (Nat × Value)} {st : List Value} {M : x_M} {Q : Option Value → x_M → Prop} {x : Int32} {off : Int} (tgt : Nat) (hd : decode (x_code m) pc = .ok (.ifCond .lt off, 3)) (ht : (pc : Int) + off = (tgt : Int)) (K1 : (x < 0) → X scr m u tgt ls st M Q) (K2 : ¬ (x < 0) → X scr m u (pc + 3) ls st M Q) : X scr m u pc ls (.int x :: st) M Q := by
  intro p l e s mi args below meth c D cI cZ A ae al H locs lx Z C R hl hret h1 h2
  exact lv_if_lt C.1 C.2.1 hd ht (fun h => K1 h p l e s mi args below meth c D cI cZ A ae al H locs lx Z C R hl hret h1 h2) (fun h => K2 h p l e s mi args below meth c D cI cZ A ae al H locs lx Z C R hl hret h1 h2)
theorem x_if_ge {scr : Option (Nat × (Nat → Int32))} {m : x_Mth} {u : Nat × Nat} {pc : Nat} {ls : List (Nat × Value)} {st : List Value} {M : x_M} {Q : Option Value → x_M → Prop} {x : Int32} {off : Int} (tgt : Nat) (hd : decode (x_code m) pc = .ok (.ifCond .ge off, 3)) (ht : (pc : Int) + off = (tgt : Int)) (K1 : (0 ≤ x) → X scr m u tgt ls st M Q) (K2 : ¬ (0 ≤ x) → X scr m u (pc + 3) ls st M Q) : X scr m u pc ls (.int x :: st) M Q := by
  intro p l e s mi args below meth c D cI cZ A ae al H locs lx Z C R hl hret h1 h2
  exact lv_if_ge C.1 C.2.1 hd ht (fun h => K1 h p l e s mi args below meth c D cI cZ A ae al H locs lx Z C R hl hret h1 h2) (fun h => K2 h p l e s mi args below meth c D cI cZ A ae al H locs lx Z C R hl hret h1 h2)
theorem x_if_gt {scr : Option (Nat × (Nat → Int32))} {m : x_Mth} {u : Nat × Nat} {pc : Nat} {ls : List (Nat × Value)} {st : List Value} {M : x_M} {Q : Option Value → x_M → Prop} {x : Int32} {off : Int} (tgt : Nat) (hd : decode (x_code m) pc = .ok (.ifCond .gt off, 3)) (ht : (pc : Int) + off = (tgt : Int)) (K1 : (0 < x) → X scr m u tgt ls st M Q) (K2 : ¬ (0 < x) → X scr m u (pc + 3) ls st M Q) : X scr m u pc ls (.int x :: st) M Q := by
  intro p l e s mi args below meth c D cI cZ A ae al H locs lx Z C R hl hret h1 h2
  exact lv_if_gt C.1 C.2.1 hd ht (fun h => K1 h p l e s mi args below meth c D cI cZ A ae al H locs lx Z C R hl hret h1 h2) (fun h => K2 h p l e s mi args below meth c D cI cZ A ae al H locs lx Z C R hl hret h1 h2)
theorem x_if_le {scr : Option (Nat × (Nat → Int32))} {m : x_Mth} {u : Nat × Nat} {pc : Nat} {ls : List (Nat × Value)} {st : List Value} {M : x_M} {Q : Option Value → x_M → Prop} {x : Int32} {off : Int} (tgt : Nat) (hd : decode (x_code m) pc = .ok (.ifCond .le off, 3)) (ht : (pc : Int) + off = (tgt : Int)) (K1 : (x ≤ 0) → X scr m u tgt ls st M Q) (K2 : ¬ (x ≤ 0) → X scr m u (pc + 3) ls st M Q) : X scr m u pc ls (.int x :: st) M Q := by
  intro p l e s mi args below meth c D cI cZ A ae al H locs lx Z C R hl hret h1 h2
  exact lv_if_le C.1 C.2.1 hd ht (fun h => K1 h p l e s mi args below meth c D cI cZ A ae al H locs lx Z C R hl hret h1 h2) (fun h => K2 h p l e s mi args below meth c D cI cZ A ae al H locs lx Z C R hl hret h1 h2)
theorem x_goto {scr : Option (Nat × (Nat → Int32))} {m : x_Mth} {u : Nat × Nat} {pc : Nat} {ls : List (Nat × Value)} {st : List Value} {M : x_M} {Q : Option Value → x_M → Prop} {off : Int} (tgt : Nat) (hd : decode (x_code m) pc = .ok (.goto off, 3)) (ht : (pc : Int) + off = (tgt : Int)) (K : X scr m u tgt ls st M Q) : X scr m u pc ls st M Q :=
  x_W (fun p l e s mi args below meth c H locs lx Z ad hx hb hl ho h k => lv_goto hx hb hd ht k) K
theorem x_swIn {scr : Option (Nat × (Nat → Int32))} {m : x_Mth} {u : Nat × Nat} {pc : Nat} {ls : List (Nat × Value)} {st : List Value} {M : x_M} {Q : Option Value → x_M → Prop} {dflt lo hi : Int} {offs : Array Int} {len : Nat} {x : Int32} {off : Int} (tgt : Nat) (hd : decode (x_code m) pc = .ok (.tableswitch dflt lo hi offs, len)) (h1 : ¬ x.toInt < lo) (h2 : ¬ hi < x.toInt) (ho : offs[(x.toInt - lo).toNat]? = some off) (ht : (pc : Int) + off = (tgt : Int)) (K : X scr m u tgt ls st M Q) : X scr m u pc ls (.int x :: st) M Q :=
  x_W (fun p l e s mi args below meth c H locs lx Z ad hx hb hl _ h k => lv_tableIn hx hb hd h1 h2 ho ht k) K
theorem x_swOut {scr : Option (Nat × (Nat → Int32))} {m : x_Mth} {u : Nat × Nat} {pc : Nat} {ls : List (Nat × Value)} {st : List Value} {M : x_M} {Q : Option Value → x_M → Prop} {dflt lo hi : Int} {offs : Array Int} {len : Nat} {x : Int32} (tgt : Nat) (hd : decode (x_code m) pc = .ok (.tableswitch dflt lo hi offs, len)) (h : x.toInt < lo ∨ hi < x.toInt) (ht : (pc : Int) + dflt = (tgt : Int)) (K : X scr m u tgt ls st M Q) : X scr m u pc ls (.int x :: st) M Q :=
  x_W (fun p l e s mi args below meth c H locs lx Z ad hx hb hl _ _ k => lv_tableOut hx hb hd h ht k) K
/-- a local of one word is stored: the list stays in order, a long that loses a half is dropped -/
def x_st1 (ls : List (Nat × Value)) (i : Nat) (v : Value) : List (Nat × Value) := (ls.filter fun q => decide (q.1 < i) && !(q.1 + 1 == i && q.2.category == 2)) ++ (i, v) :: ls.filter fun q => decide (i < q.1)
def x_st2 (ls : List (Nat × Value)) (i : Nat) (v : Value) : List (Nat × Value) := (ls.filter fun q => decide (q.1 < i) && !(q.1 + 1 == i && q.2.category == 2)) ++ (i, v) :: ls.filter fun q => decide (i + 1 < q.1)
theorem x_lv_of {ls : Array Slot} {n : Nat} {l l' : List (Nat × Value)} (h : lv_has ls n l) (hs : ∀ q ∈ l', q ∈ l) : lv_has ls n l' := ⟨h.1, h.2.1, fun q hq => h.2.2 q (hs q hq)⟩
theorem x_st1_of {lx : Array Slot} {n : Nat} {ls : List (Nat × Value)} {i : Nat} {v : Value} {ad : Nat → Nat} (h : lv_has lx n ((i, x_cv ad v) :: (x_lp ad ls).filter (fun q => !(q.1 == i) && !(q.1 + 1 == i && q.2.category == 2)))) : lv_has lx n (x_lp ad (x_st1 ls i v)) := by
  refine x_lv_of h fun q hq => ?_
  simp only [x_lp, x_st1, List.map_append, List.map_cons, List.mem_append, List.mem_cons, List.mem_map, List.mem_filter] at hq ⊢
  rcases hq with ⟨a, ⟨h1, h2⟩, rfl⟩ | rfl | ⟨a, ⟨h1, h2⟩, rfl⟩
  · refine Or.inr ⟨⟨a, h1, rfl⟩, ?_⟩
    simp only [Bool.and_eq_true, decide_eq_true_eq] at h2
    simp only [x_cv_cat, Bool.and_eq_true]
    refine ⟨?_, h2.2⟩
    have : a.1 ≠ i := by omega
    simpa using this
  · exact Or.inl rfl
  · refine Or.inr ⟨⟨a, h1, rfl⟩, ?_⟩
    have h3 : i < a.1 := by simpa using h2
    have e1 : a.1 ≠ i := by omega
    have e2 : a.1 + 1 ≠ i := by omega
    simp [e1, e2]
theorem x_st2_of {lx : Array Slot} {n : Nat} {ls : List (Nat × Value)} {i : Nat} {v : Value} {ad : Nat → Nat} (h : lv_has lx n ((i, x_cv ad v) :: (x_lp ad ls).filter (fun q => !(q.1 == i) && (!(q.1 == i + 1) && !(q.1 + 1 == i && q.2.category == 2))))) : lv_has lx n (x_lp ad (x_st2 ls i v)) := by
  refine x_lv_of h fun q hq => ?_
  simp only [x_lp, x_st2, List.map_append, List.map_cons, List.mem_append, List.mem_cons, List.mem_map, List.mem_filter] at hq ⊢
  rcases hq with ⟨a, ⟨h1, h2⟩, rfl⟩ | rfl | ⟨a, ⟨h1, h2⟩, rfl⟩
  · refine Or.inr ⟨⟨a, h1, rfl⟩, ?_⟩
    simp only [Bool.and_eq_true, decide_eq_true_eq] at h2
    simp only [x_cv_cat, Bool.and_eq_true]
    have e1 : a.1 ≠ i := by omega
    have e2 : a.1 ≠ i + 1 := by omega
    exact ⟨by simpa using e1, by simpa using e2, h2.2⟩
  · exact Or.inl rfl
  · refine Or.inr ⟨⟨a, h1, rfl⟩, ?_⟩
    have h3 : i + 1 < a.1 := by simpa using h2
    have e1 : a.1 ≠ i := by omega
    have e2 : a.1 + 1 ≠ i := by omega
    have e3 : a.1 ≠ i + 1 := by omega
    simp [e1, e2, e3]
theorem x_istore_n {scr : Option (Nat × (Nat → Int32))} {m : x_Mth} {u : Nat × Nat} {pc : Nat} {ls : List (Nat × Value)} {st : List Value} {M : x_M} {Q : Option Value → x_M → Prop} {k : Fin 4} {i : Nat} {x : Int32} (ls' : List (Nat × Value)) (hd : decode (x_code m) pc = .ok (.istore_n k, 1)) (hi : (k : Nat) = i) (hn : i < x_maxL m) (hs : x_st1 ls i (.int x) = ls') (K : X scr m u (pc + 1) ls' st M Q) : X scr m u pc ls (.int x :: st) M Q := by
  subst hs
  intro p l e s mi args below meth c D cI cZ A ae al H locs lx Z C R hl hret h1 h2
  exact lv_istore_n C.1 C.2.1 hd hi hl hn rfl (fun lx hl => K p l e s mi args below meth c D cI cZ A ae al H locs lx Z C R (x_st1_of (v := .int x) hl) hret h1 h2)
theorem x_astore_n {scr : Option (Nat × (Nat → Int32))} {m : x_Mth} {u : Nat × Nat} {pc : Nat} {ls : List (Nat × Value)} {st : List Value} {M : x_M} {Q : Option Value → x_M → Prop} {k : Fin 4} {i : Nat} {x : Nat} (ls' : List (Nat × Value)) (hd : decode (x_code m) pc = .ok (.astore_n k, 1)) (hi : (k : Nat) = i) (hn : i < x_maxL m) (hs : x_st1 ls i (.ref x) = ls') (K : X scr m u (pc + 1) ls' st M Q) : X scr m u pc ls (.ref x :: st) M Q := by
  subst hs
  intro p l e s mi args below meth c D cI cZ A ae al H locs lx Z C R hl hret h1 h2
  exact lv_astore_n C.1 C.2.1 hd hi hl hn rfl (fun lx hl => K p l e s mi args below meth c D cI cZ A ae al H locs lx Z C R (x_st1_of (v := .ref x) hl) hret h1 h2)
theorem x_lstore_n {scr : Option (Nat × (Nat → Int32))} {m : x_Mth} {u : Nat × Nat} {pc : Nat} {ls : List (Nat × Value)} {st : List Value} {M : x_M} {Q : Option Value → x_M → Prop} {k : Fin 4} {i : Nat} {x : Int64} (ls' : List (Nat × Value)) (hd : decode (x_code m) pc = .ok (.lstore_n k, 1)) (hi : (k : Nat) = i) (hn : i + 1 < x_maxL m) (hs : x_st2 ls i (.long x) = ls') (K : X scr m u (pc + 1) ls' st M Q) : X scr m u pc ls (.long x :: st) M Q := by
  subst hs
  intro p l e s mi args below meth c D cI cZ A ae al H locs lx Z C R hl hret h1 h2
  exact lv_lstore_n C.1 C.2.1 hd hi hl hn rfl (fun lx hl => K p l e s mi args below meth c D cI cZ A ae al H locs lx Z C R (x_st2_of (v := .long x) hl) hret h1 h2)
theorem x_istore {scr : Option (Nat × (Nat → Int32))} {m : x_Mth} {u : Nat × Nat} {pc : Nat} {ls : List (Nat × Value)} {st : List Value} {M : x_M} {Q : Option Value → x_M → Prop} {i : Nat} {x : Int32} (ls' : List (Nat × Value)) (hd : decode (x_code m) pc = .ok (.istore i, 2)) (hn : i < x_maxL m) (hs : x_st1 ls i (.int x) = ls') (K : X scr m u (pc + 2) ls' st M Q) : X scr m u pc ls (.int x :: st) M Q := by
  subst hs
  intro p l e s mi args below meth c D cI cZ A ae al H locs lx Z C R hl hret h1 h2
  exact lv_istore C.1 C.2.1 hd hl hn rfl (fun lx hl => K p l e s mi args below meth c D cI cZ A ae al H locs lx Z C R (x_st1_of (v := .int x) hl) hret h1 h2)
theorem x_astore {scr : Option (Nat × (Nat → Int32))} {m : x_Mth} {u : Nat × Nat} {pc : Nat} {ls : List (Nat × Value)} {st : List Value} {M : x_M} {Q : Option Value → x_M → Prop} {i : Nat} {x : Nat} (ls' : List (Nat × Value)) (hd : decode (x_code m) pc = .ok (.astore i, 2)) (hn : i < x_maxL m) (hs : x_st1 ls i (.ref x) = ls') (K : X scr m u (pc + 2) ls' st M Q) : X scr m u pc ls (.ref x :: st) M Q := by
  subst hs
  intro p l e s mi args below meth c D cI cZ A ae al H locs lx Z C R hl hret h1 h2
  exact lv_astore C.1 C.2.1 hd hl hn rfl (fun lx hl => K p l e s mi args below meth c D cI cZ A ae al H locs lx Z C R (x_st1_of (v := .ref x) hl) hret h1 h2)
theorem x_lstore {scr : Option (Nat × (Nat → Int32))} {m : x_Mth} {u : Nat × Nat} {pc : Nat} {ls : List (Nat × Value)} {st : List Value} {M : x_M} {Q : Option Value → x_M → Prop} {i : Nat} {x : Int64} (ls' : List (Nat × Value)) (hd : decode (x_code m) pc = .ok (.lstore i, 2)) (hn : i + 1 < x_maxL m) (hs : x_st2 ls i (.long x) = ls') (K : X scr m u (pc + 2) ls' st M Q) : X scr m u pc ls (.long x :: st) M Q := by
  subst hs
  intro p l e s mi args below meth c D cI cZ A ae al H locs lx Z C R hl hret h1 h2
  exact lv_lstore C.1 C.2.1 hd hl hn rfl (fun lx hl => K p l e s mi args below meth c D cI cZ A ae al H locs lx Z C R (x_st2_of (v := .long x) hl) hret h1 h2)
theorem x_iinc {scr : Option (Nat × (Nat → Int32))} {m : x_Mth} {u : Nat × Nat} {pc : Nat} {ls : List (Nat × Value)} {st : List Value} {M : x_M} {Q : Option Value → x_M → Prop} {i : Nat} {n : Int} {x : Int32} (q : Nat) (v : Int32) (ls' : List (Nat × Value)) (hd : decode (x_code m) pc = .ok (.iinc i n, 3)) (hq : ls[q]? = some (i, .int x)) (hv : x + Int32.ofInt n = v) (hn : i < x_maxL m) (hs : x_st1 ls i (.int v) = ls') (K : X scr m u (pc + 3) ls' st M Q) : X scr m u pc ls st M Q := by
  subst hs
  intro p l e s mi args below meth c D cI cZ A ae al H locs lx Z C R hl hret h1 h2
  exact lv_iinc C.1 C.2.1 hd hl (x_lvat hq) hv hn rfl (fun lx hl => K p l e s mi args below meth c D cI cZ A ae al H locs lx Z C R (x_st1_of (v := .int v) hl) hret h1 h2)
/-- the ends -/
theorem x_end {scr : Option (Nat × (Nat → Int32))} {m : x_Mth} {u : Nat × Nat} {pc : Nat} {ls : List (Nat × Value)} {st : List Value} {M : x_M} {Q : Option Value → x_M → Prop}  (hd : decode (x_code m) pc = .ok (.return_, 1)) (hr : x_ret m = none) (K : Q (none) M) : X scr m u pc ls ([]) M Q := by
  intro p l e s mi args below meth c D cI cZ A ae al H locs lx Z C R hl hret h1 h2
  exact hret _ M al H locs lx pc u.1 u.2 K R (fun _ _ => rfl) (Nat.le_refl _) (by omega) ⟨hd, hr⟩ h1 h2
theorem x_iret {scr : Option (Nat × (Nat → Int32))} {m : x_Mth} {u : Nat × Nat} {pc : Nat} {ls : List (Nat × Value)} {st : List Value} {M : x_M} {Q : Option Value → x_M → Prop} {v : Int32} (hd : decode (x_code m) pc = .ok (.ireturn, 1)) {ty : FieldType} (hr : x_ret m = some ty) (hn : narrow ty (.int v) = .int v) (K : Q (some (.int v)) M) : X scr m u pc ls ([.int v]) M Q := by
  intro p l e s mi args below meth c D cI cZ A ae al H locs lx Z C R hl hret h1 h2
  exact hret _ M al H locs lx pc u.1 u.2 K R (fun _ _ => rfl) (Nat.le_refl _) (by omega) ⟨hd, ty, hr, hn⟩ h1 h2
theorem x_lret {scr : Option (Nat × (Nat → Int32))} {m : x_Mth} {u : Nat × Nat} {pc : Nat} {ls : List (Nat × Value)} {st : List Value} {M : x_M} {Q : Option Value → x_M → Prop} {v : Int64} (hd : decode (x_code m) pc = .ok (.lreturn, 1)) (hr : x_ret m = some .long) (K : Q (some (.long v)) M) : X scr m u pc ls ([.long v]) M Q := by
  intro p l e s mi args below meth c D cI cZ A ae al H locs lx Z C R hl hret h1 h2
  exact hret _ M al H locs lx pc u.1 u.2 K R (fun _ _ => rfl) (Nat.le_refl _) (by omega) ⟨hd, hr⟩ h1 h2
