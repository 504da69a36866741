/-! ===== Object's constructor, a nest mate's constructor, Math, texts, statics, the script ===== -/
theorem x_objInit {scr : Option (Nat × (Nat → Int32))} {m : x_Mth} {u : Nat × Nat} {pc : Nat} {ls : List (Nat × Value)} {st : List Value} {M : x_M} {Q : Option Value → x_M → Prop} {idx o : Nat} (hd : decode (x_code m) pc = .ok (.invokespecial idx, 3)) (hl : Cond.methodLink (x_own m) idx objectInit ∈ x_GW) (hf : 1 ≤ x_fr m) (hw : x_cat st + 12 ≤ x_lo m)
    (K : X scr m u (pc + 3) ls st M Q) : X scr m u pc ls (.ref o :: st) M Q := by
  intro p l e s mi args below meth c D cI cZ A ae al H locs lx Z C R hlx hret h1 h2
  obtain ⟨hx, hb, hml, hr, hlk, hown, hnm, hts, hK, hA, hE, hsc⟩ := id C
  refine W.objInit hx hb hown (hts _ hl) (hts _ x_obj.1) (hts _ x_obj.2) rfl (by rw [hml]; exact hlx.1) rfl hd hf ?_ (K p l e s mi args below meth c D cI cZ A ae al H locs lx Z C R hlx hret h1 h2)
  show 2 * 0 + ((st.map (x_cv (x_ad al ae))).map fun v => v.category).sum + 12 ≤ x_lo m
  rw [x_cat_cv]
  omega
theorem x_callN {scr : Option (Nat × (Nat → Int32))} {m : x_Mth} {u : Nat × Nat} {pc : Nat} {ls : List (Nat × Value)} {M : x_M} {Q : Option Value → x_M → Prop} (m' : x_Mth) (As rest : List Value) (b n : Nat) (st : List Value) (hst : st = As.reverse ++ .ref b :: rest) (hd : decode (x_code m) pc = .ok (.invokespecial 9, 3)) (ho : x_own m = "HeaderWays") (hy : x_y m' = ⟨"HeaderWays$Net", "<init>", "()V"⟩) (hm : x_MC m' n) (hn : As.length = n)
    (hR : x_fr m' + 1 ≤ x_fr m ∧ 8 + (x_maxL m' + 11) + x_lo m' ≤ x_lo m) (hc : u.1 + x_mc m' ≤ x_mc m ∧ u.2 + x_ms m' ≤ x_ms m) (hw : x_cat rest ≤ 8) (hlen : (lg_sl (.ref b :: As)).length ≤ x_maxL m')
    (hrk : x_mc m' = 0 ∨ (rest.all (x_rlt M.1.length) = true ∧ (ls.map (·.2)).all (x_rlt M.1.length) = true))
    (K : X none m' (0, 0) 0 (lv_args 0 (.ref b :: As)) [] M (fun r M' => X scr m (u.1 + x_mc m', u.2 + x_ms m') (pc + 3) ls (r.toList ++ rest) M' Q)) : X scr m u pc ls st M Q := by
  refine x_callK (Ar := .ref b :: As) (rest := rest) hrk hc (fun p l e s mi args below meth c D cI cZ A ae al H locs lx C R hlx => ?_) (fun r M' h => h)
  subst hst
  obtain ⟨hx, hb, hml, hr, hlk, hown, hnm, hts, hK, hA, hE, hsc⟩ := id C
  have hmet := x_met hm.1.1 hm.1.2.1 hlen K l D cI cZ ae al H.size
  have hcb := va_cnB (R := x_room m) (own := x_own m) (index := 9) (host := "HeaderWays") (y := x_y m') (ret := x_ret m') (ws := Cond.code (x_y m') (x_code m') (x_maxL m') (x_ret m') :: x_GW) (rm := x_room m') (mc := x_mc m') (ms := x_ms m') n hts (x_goodGW hm.1.2.2.2.1) rfl rfl rfl (by rw [ho, hy]; exact hE.2.2.2.2.1) (hts _ hm.1.2.2.1) hm.1.2.2.2.2 hR
  rw [hm.2.2.2] at hmet hcb
  exact va_runIN (As := As.map (x_cv (x_ad al ae))) (rest := rest.map (x_cv (x_ad al ae))) (b := x_ad al ae b) (cc := x_code m) (nL := x_maxL m) ⟨hx, hb, hml, hown, hts⟩ hmet ⟨hcb, hm.2.2.1, hts _ hm.2.1⟩ ⟨x_blind, x_pre C R _⟩ rfl (by rw [List.length_map]; exact hn) hlx.1 (by simp [x_cv]) (lv_room (by rw [x_cat_cv]; exact hw)) hd hc
theorem x_mathMax {scr : Option (Nat × (Nat → Int32))} {m : x_Mth} {u : Nat × Nat} {pc : Nat} {ls : List (Nat × Value)} {st : List Value} {M : x_M} {Q : Option Value → x_M → Prop} {idx : Nat} {x y : Int32} (hd : decode (x_code m) pc = .ok (.invokestatic idx, 3)) (hl : Cond.methodLink (x_own m) idx Lib.Math.max.name ∈ x_GW) (hs : Cond.static Lib.Math.max.name ∈ x_GW) (hi : Cond.initialized "java/lang/Math" ∈ x_GW) (hc : Cond.code Lib.Math.max.name Lib.Math.max.code 2 (some .int) ∈ x_GW) (hf : 1 ≤ x_fr m) (hw : x_cat st + 13 ≤ x_lo m)
    (K : X scr m u (pc + 3) ls (.int (if x < y then y else x) :: st) M Q) : X scr m u pc ls (.int y :: .int x :: st) M Q := by
  intro p l e s mi args below meth c D cI cZ A ae al H locs lx Z C R hlx hret h1 h2
  obtain ⟨hx, hb, hml, hr, hlk, hown, hnm, hts, hK, hA, hE, hsc⟩ := id C
  exact va_mmax hx hb (by rw [hml]; exact hlx.1.symm) hown (hts _ hl) (hts _ hs) (hts _ hi) (hts _ hc) hf (by rw [x_cat_cv]; exact hw) h1 h2 hd (K p l e s mi args below meth c D cI cZ A ae al H locs lx Z C R hlx hret h1 h2)
theorem x_mathMin {scr : Option (Nat × (Nat → Int32))} {m : x_Mth} {u : Nat × Nat} {pc : Nat} {ls : List (Nat × Value)} {st : List Value} {M : x_M} {Q : Option Value → x_M → Prop} {idx : Nat} {x y : Int32} (hd : decode (x_code m) pc = .ok (.invokestatic idx, 3)) (hl : Cond.methodLink (x_own m) idx Lib.Math.min.name ∈ x_GW) (hs : Cond.static Lib.Math.min.name ∈ x_GW) (hi : Cond.initialized "java/lang/Math" ∈ x_GW) (hc : Cond.code Lib.Math.min.name Lib.Math.min.code 2 (some .int) ∈ x_GW) (hf : 1 ≤ x_fr m) (hw : x_cat st + 13 ≤ x_lo m)
    (K : X scr m u (pc + 3) ls (.int (if y < x then y else x) :: st) M Q) : X scr m u pc ls (.int y :: .int x :: st) M Q := by
  intro p l e s mi args below meth c D cI cZ A ae al H locs lx Z C R hlx hret h1 h2
  obtain ⟨hx, hb, hml, hr, hlk, hown, hnm, hts, hK, hA, hE, hsc⟩ := id C
  exact va_mmin hx hb (by rw [hml]; exact hlx.1.symm) hown (hts _ hl) (hts _ hs) (hts _ hi) (hts _ hc) hf (by rw [x_cat_cv]; exact hw) h1 h2 hd (K p l e s mi args below meth c D cI cZ A ae al H locs lx Z C R hlx hret h1 h2)
/-- a text's reference is pushed -/
theorem x_ldcS {scr : Option (Nat × (Nat → Int32))} {m : x_Mth} {u : Nat × Nat} {pc : Nat} {ls : List (Nat × Value)} {st : List Value} {M : x_M} {Q : Option Value → x_M → Prop} (idx k : Nat) (ho : x_own m = RX8) (hi : (idx = 68 ∧ k = 1000000) ∨ (idx = 76 ∧ k = 1000001)) (hd : decode (x_code m) pc = .ok (.ldc idx, 2)) (K : X scr m u (pc + 2) ls (.ref k :: st) M Q) : X scr m u pc ls st M Q := by
  intro p l e s mi args below meth c D cI cZ A ae al H locs lx Z C R hlx hret h1 h2
  obtain ⟨hx, hb, hml, hr, hlk, hown, hnm, hts, hK, hA, hE, hsc⟩ := id C
  have kk := K p l e s mi args below meth c D cI cZ A ae al H locs lx Z C R hlx hret h1 h2
  rw [ho] at hown
  rcases hi with ⟨rfl, rfl⟩ | ⟨rfl, rfl⟩
  · exact va_ldcS hx hb hown hE.1 hd kk
  · exact va_ldcS hx hb hown hE.2.1 hd kk
theorem x_ad_hi {al ae : Nat → Nat} {k : Nat} (h : 1000000 ≤ k) : x_ad al ae k = ae k := by simp [x_ad, show ¬ k < 1000000 by omega]
/-- a text's bytes -/
theorem x_strV {scr : Option (Nat × (Nat → Int32))} {m : x_Mth} {u : Nat × Nat} {pc : Nat} {ls : List (Nat × Value)} {st : List Value} {M : x_M} {Q : Option Value → x_M → Prop} {idx : Nat} (i : Nat) (hi : i < 2) (hd : decode (x_code m) pc = .ok (.getfield idx, 3)) (hl : Cond.fieldLink (x_own m) idx "java/lang/String" "value" "[B" ∈ x_GW) (K : X scr m u (pc + 3) ls (.ref (1000010 + i) :: st) M Q) : X scr m u pc ls (.ref (1000000 + i) :: st) M Q := by
  intro p l e s mi args below meth c D cI cZ A ae al H locs lx Z C R hlx hret h1 h2
  obtain ⟨hx, hb, hml, hr, hlk, hown, hnm, hts, hK, hA, hE, hsc⟩ := id C
  have kk := K p l e s mi args below meth c D cI cZ A ae al H locs lx Z C R hlx hret h1 h2
  have e1 : x_ad al ae (1000000 + i) = ae (1000000 + i) := x_ad_hi (by omega)
  have e2 : x_ad al ae (1000010 + i) = ae (1000010 + i) := x_ad_hi (by omega)
  simp only [List.map_cons, x_cv, e2] at kk
  simp only [List.map_cons, x_cv, e1]
  exact vk_getf hx hb (hE.2.2.1.1 i hi).2.2.1 R.2.2.1 hown (hts _ hl) (fun x h => h) hd kk
theorem x_strC {scr : Option (Nat × (Nat → Int32))} {m : x_Mth} {u : Nat × Nat} {pc : Nat} {ls : List (Nat × Value)} {st : List Value} {M : x_M} {Q : Option Value → x_M → Prop} {idx : Nat} (i : Nat) (hi : i < 2) (hd : decode (x_code m) pc = .ok (.getfield idx, 3)) (hl : Cond.fieldLink (x_own m) idx "java/lang/String" "coder" "B" ∈ x_GW) (K : X scr m u (pc + 3) ls (.int 0 :: st) M Q) : X scr m u pc ls (.ref (1000000 + i) :: st) M Q := by
  intro p l e s mi args below meth c D cI cZ A ae al H locs lx Z C R hlx hret h1 h2
  obtain ⟨hx, hb, hml, hr, hlk, hown, hnm, hts, hK, hA, hE, hsc⟩ := id C
  have e1 : x_ad al ae (1000000 + i) = ae (1000000 + i) := x_ad_hi (by omega)
  simp only [List.map_cons, x_cv, e1]
  exact vk_getf hx hb (hE.2.2.1.1 i hi).2.1 R.2.2.1 hown (hts _ hl) (fun x h => h) hd (K p l e s mi args below meth c D cI cZ A ae al H locs lx Z C R hlx hret h1 h2)
theorem x_strL {scr : Option (Nat × (Nat → Int32))} {m : x_Mth} {u : Nat × Nat} {pc : Nat} {ls : List (Nat × Value)} {st : List Value} {M : x_M} {Q : Option Value → x_M → Prop} (i : Nat) (hi : i < 2) (hd : decode (x_code m) pc = .ok (.arraylength, 1)) (K : X scr m u (pc + 1) ls (.int (Int32.ofNat (([5, 4] : List Nat).getD i 0)) :: st) M Q) : X scr m u pc ls (.ref (1000010 + i) :: st) M Q := by
  intro p l e s mi args below meth c D cI cZ A ae al H locs lx Z C R hlx hret h1 h2
  obtain ⟨hx, hb, hml, hr, hlk, hown, hnm, hts, hK, hA, hE, hsc⟩ := id C
  have e1 : x_ad al ae (1000010 + i) = ae (1000010 + i) := x_ad_hi (by omega)
  simp only [List.map_cons, x_cv, e1]
  exact va_tlen hx hb (hE.2.2.1.1 i hi).2.2.2 R.2.2.1 rfl hd (K p l e s mi args below meth c D cI cZ A ae al H locs lx Z C R hlx hret h1 h2)
theorem x_strB {scr : Option (Nat × (Nat → Int32))} {m : x_Mth} {u : Nat × Nat} {pc : Nat} {ls : List (Nat × Value)} {st : List Value} {M : x_M} {Q : Option Value → x_M → Prop} (i : Nat) {j : Int32} (hi : i < 2) (hj : vp_in j (([5, 4] : List Nat).getD i 0)) (hd : decode (x_code m) pc = .ok (.baload, 1)) (K : X scr m u (pc + 1) ls (.int ((([[110, 111, 100, 101, 115], [108, 105, 110, 107]] : List (List Int32)).getD i []).getD j.toNatClampNeg 0) :: st) M Q) : X scr m u pc ls (.int j :: .ref (1000010 + i) :: st) M Q := by
  intro p l e s mi args below meth c D cI cZ A ae al H locs lx Z C R hlx hret h1 h2
  obtain ⟨hx, hb, hml, hr, hlk, hown, hnm, hts, hK, hA, hE, hsc⟩ := id C
  have e1 : x_ad al ae (1000010 + i) = ae (1000010 + i) := x_ad_hi (by omega)
  simp only [List.map_cons, x_cv, e1]
  exact va_tb hx hb (hE.2.2.1.1 i hi).2.2.2 R.2.2.1 hj rfl hd (K p l e s mi args below meth c D cI cZ A ae al H locs lx Z C R hlx hret h1 h2)
theorem x_compact {scr : Option (Nat × (Nat → Int32))} {m : x_Mth} {u : Nat × Nat} {pc : Nat} {ls : List (Nat × Value)} {st : List Value} {M : x_M} {Q : Option Value → x_M → Prop} {idx : Nat} (hd : decode (x_code m) pc = .ok (.getstatic idx, 3)) (hl : Cond.fieldLink (x_own m) idx "java/lang/String" "COMPACT_STRINGS" "Z" ∈ x_GW) (K : X scr m u (pc + 3) ls (.int 1 :: st) M Q) : X scr m u pc ls st M Q := by
  intro p l e s mi args below meth c D cI cZ A ae al H locs lx Z C R hlx hret h1 h2
  obtain ⟨hx, hb, hml, hr, hlk, hown, hnm, hts, hK, hA, hE, hsc⟩ := id C
  exact va_gets hx hb hE.2.2.2.1 R.2.2.1 hown (hts _ hl) (fun x h => h) hd (K p l e s mi args below meth c D cI cZ A ae al H locs lx Z C R hlx hret h1 h2)
theorem x_formatter {scr : Option (Nat × (Nat → Int32))} {m : x_Mth} {u : Nat × Nat} {pc : Nat} {ls : List (Nat × Value)} {st : List Value} {M : x_M} {Q : Option Value → x_M → Prop} {idx : Nat} (hd : decode (x_code m) pc = .ok (.getstatic idx, 3)) (hl : Cond.fieldLink (x_own m) idx "jdk/internal/util/Preconditions" "SIOOBE_FORMATTER" "Ljava/util/function/BiFunction;" ∈ x_GW) (K : ∀ v, (v = .null ∨ v = .ref 1000030) → X scr m u (pc + 3) ls (v :: st) M Q) : X scr m u pc ls st M Q := by
  intro p l e s mi args below meth c D cI cZ A ae al H locs lx Z C R hlx hret h1 h2
  obtain ⟨hx, hb, hml, hr, hlk, hown, hnm, hts, hK, hA, hE, hsc⟩ := id C
  rcases hE.2.2.2.2.2 with hz | hz
  · exact va_gets hx hb hz R.2.2.1 hown (hts _ hl) (fun x h => h) hd (K .null (Or.inl rfl) p l e s mi args below meth c D cI cZ A ae al H locs lx Z C R hlx hret h1 h2)
  · exact va_gets hx hb hz R.2.2.1 hown (hts _ hl) (fun x h => h) hd (K (.ref 1000030) (Or.inr rfl) p l e s mi args below meth c D cI cZ A ae al H locs lx Z C R hlx hret h1 h2)
/-- a text's own methods -/
theorem x_callT {scr : Option (Nat × (Nat → Int32))} {m : x_Mth} {u : Nat × Nat} {pc : Nat} {ls : List (Nat × Value)} {M : x_M} {Q : Option Value → x_M → Prop} {idx : Nat} (m' : x_Mth) (As rest : List Value) (i n : Nat) (st : List Value) (hi : i < 2) (hst : st = As.reverse ++ .ref (1000000 + i) :: rest) (hd : decode (x_code m) pc = .ok (.invokevirtual idx, 3)) (hl : Cond.methodLink (x_own m) idx (x_y m') ∈ x_GW) (hm : x_MV m' n) (hn : As.length = n)
    (hR : x_fr m' + 1 ≤ x_fr m ∧ 8 + (x_maxL m' + 11) + x_lo m' ≤ x_lo m) (hc : u.1 + x_mc m' ≤ x_mc m ∧ u.2 + x_ms m' ≤ x_ms m) (hw : x_cat rest ≤ 8) (hcl : (x_y m').cls = "java/lang/String") (hlen : (lg_sl (.ref (1000000 + i) :: As)).length ≤ x_maxL m')
    (hrk : x_mc m' = 0 ∨ (rest.all (x_rlt M.1.length) = true ∧ (ls.map (·.2)).all (x_rlt M.1.length) = true))
    (K : X none m' (0, 0) 0 (lv_args 0 (.ref (1000000 + i) :: As)) [] M (fun r M' => X scr m (u.1 + x_mc m', u.2 + x_ms m') (pc + 3) ls (r.toList ++ rest) M' Q)) : X scr m u pc ls st M Q := by
  refine x_callK (Ar := .ref (1000000 + i) :: As) (rest := rest) hrk hc (fun p l e s mi args below meth c D cI cZ A ae al H locs lx C R hlx => ?_) (fun r M' h => h)
  subst hst
  obtain ⟨hx, hb, hml, hr, hlk, hown, hnm, hts, hK, hA, hE, hsc⟩ := id C
  have hmet := x_met hm.1.1 hm.1.2.1 hlen K l D cI cZ ae al H.size
  have cw : CallW (x_room m) s args (x_own m) (x_y m').cls idx (x_y m') (x_code m') (x_maxL m') (x_ret m') (Cond.code (x_y m') (x_code m') (x_maxL m') (x_ret m') :: x_GW) (x_room m') (x_mc m') (x_ms m') n := ⟨x_callB hm.1 hts hl hR, hts _ hm.2.1, hts _ hm.2.2⟩
  have e1 : x_ad al ae (1000000 + i) = ae (1000000 + i) := x_ad_hi (by omega)
  have hrv : ∃ cell : Cell, H[x_ad al ae (1000000 + i)]? = some cell ∧ cell.vm.isStatics = false ∧ s.vm.findClass (x_y m').cls = some cell.cls := by
    rw [hcl, e1]
    exact vk_recv (i := i) (adK := fun i => ae (1000000 + i)) hE.2.2.1 hi R.2.2.1
  exact va_runV (As := As.map (x_cv (x_ad al ae))) (rest := rest.map (x_cv (x_ad al ae))) (b := x_ad al ae (1000000 + i)) (cc := x_code m) (nL := x_maxL m) ⟨hx, hb, hml, hown, hts⟩ hmet cw ⟨x_blind, hrv, x_pre C R _⟩ rfl (by rw [List.length_map]; exact hn) hlx.1 (by simp [x_cv]) (lv_room (by rw [x_cat_cv]; exact hw)) hd hc
/-- the script -/
theorem x_sld {L : Nat} {xs : Nat → Int32} {m : x_Mth} {u : Nat × Nat} {pc : Nat} {ls : List (Nat × Value)} {st : List Value} {M : x_M} {Q : Option Value → x_M → Prop} {i : Int32} (hd : decode (x_code m) pc = .ok (.iaload, 1)) (hin : vp_in i L) (K : X (some (L, xs)) m u (pc + 1) ls (.int (xs i.toNatClampNeg) :: st) M Q) : X (some (L, xs)) m u pc ls (.int i :: .ref 1000020 :: st) M Q := by
  intro p l e s mi args below meth c D cI cZ A ae al H locs lx Z C R hlx hret h1 h2
  obtain ⟨hx, hb, hml, hr, hlk, hown, hnm, hts, hK, hA, hE, hsc⟩ := id C
  obtain ⟨hX, hbl, hbA⟩ := hsc L xs rfl
  have e1 : x_ad al ae 1000020 = ae 1000020 := x_ad_hi (by omega)
  simp only [List.map_cons, x_cv, e1]
  exact va_sld hx hb hX hbl hbA R.2.2.1 hin hd (K p l e s mi args below meth c D cI cZ A ae al H locs lx Z C R hlx hret h1 h2)
theorem x_slen {L : Nat} {xs : Nat → Int32} {m : x_Mth} {u : Nat × Nat} {pc : Nat} {ls : List (Nat × Value)} {st : List Value} {M : x_M} {Q : Option Value → x_M → Prop} (hd : decode (x_code m) pc = .ok (.arraylength, 1)) (K : X (some (L, xs)) m u (pc + 1) ls (.int (Int32.ofNat L) :: st) M Q) : X (some (L, xs)) m u pc ls (.ref 1000020 :: st) M Q := by
  intro p l e s mi args below meth c D cI cZ A ae al H locs lx Z C R hlx hret h1 h2
  obtain ⟨hx, hb, hml, hr, hlk, hown, hnm, hts, hK, hA, hE, hsc⟩ := id C
  obtain ⟨hX, hbl, hbA⟩ := hsc L xs rfl
  have e1 : x_ad al ae 1000020 = ae 1000020 := x_ad_hi (by omega)
  simp only [List.map_cons, x_cv, e1]
  exact va_slen hx hb hX hbl hbA R.2.2.1 hd (K p l e s mi args below meth c D cI cZ A ae al H locs lx Z C R hlx hret h1 h2)
