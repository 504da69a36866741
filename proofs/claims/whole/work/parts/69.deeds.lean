/-! ===== deeds, and undoing them ===== -/
theorem o_turnGo {k n ln l : Nat} {lo hi c0 c1 : Nat → Nat} {U : Nat} {seen : Nat → Nat} {I : Nat → Nat → Int32} {L : Nat → Int64} (hok : g_okS (n, ln, lo, hi, c0, c1, U, seen)) (h23 : cSt I (n, ln, lo, hi, c0, c1, U, seen) ∧ mSt I (n, ln, lo, hi, c0, c1, U, seen)) (hTx : rTx I) (hLi : rLi I n ln) (hTr : rTr I n) (hPr : rPr I) (hPa : rPa I (n, ln, lo, hi, c0, c1, U, seen)) (hLe : rLe I k) (hl : l < ln) :
    XS mX9_turn 0 [(0, .ref 0), (1, .int (nI l))] [] I L (fun r I1 L1 => ∃ v, r = some (.int v) ∧ Ag [3136, 3137, 3200, 3264, 3392] I I1 ∧ XS mX10_becomesUp 29 [(0, .ref 49), (1, .int (nI l))] [] I1 L1 (fun r2 I2 _ => r2 = some (.int v) ∧ Rel (k + 1) I2)) := by
  obtain ⟨hN, hc0, hc1, hU14, hS14, hU, hS⟩ := g_okS_eN hok
  have hln := hN.2.2.1
  have hn8 := hN.2.1
  obtain ⟨⟨g1, g2, g3, g4, g5⟩, ⟨m1, m2, m3, m4, m5⟩⟩ := id h23
  obtain ⟨a, ah, H, p1, p2, p3, p4, p5, p6, p7⟩ := hPa
  have hpow : 2 ^ l < 2 ^ ln := Nat.pow_lt_pow_right (by omega) hl
  have hU' : U ^^^ 2 ^ l < 2 ^ ln := Nat.xor_lt_two_pow hok.2.2.2.1 hpow
  have hU2 : U ^^^ 2 ^ l < 2 ^ 14 := Nat.lt_of_lt_of_le hU' (Nat.pow_le_pow_right (by omega) hln)
  have e66 : I 66 0 = nI U := g4
  refine bX9_turn_0 (bX3_keepUp_0 (c_pkeep p1 p2 p3 p4 (fun I1 s1 d1 d2 d3 d4 => bX3_keepUp_14 (bX9_turn_7 ?_))))
  have f66 : I1 66 0 = nI U := by rw [s1 66 (by decide)]; exact e66
  rw [f66, i_1shl (by omega), i_xor, x_up_at]
  have s2 : Sm [768, 832, 896, 960, 709, 710, 66] I (x_up I1 66 0 (nI (U ^^^ 2 ^ l))) := (s1.mono (by decide)).up (by decide)
  have a2 : (x_up I1 66 0 (nI (U ^^^ 2 ^ l))) 66 0 = nI (U ^^^ 2 ^ l) := x_up_at
  have a3 : Sm [66] I1 (x_up I1 66 0 (nI (U ^^^ 2 ^ l))) := Sm.rf.up (by decide)
  generalize (x_up I1 66 0 (nI (U ^^^ 2 ^ l))) = I2 at s2 a2 a3 ⊢
  refine c_bitCount (by omega) (bX9_turn_32 ⟨_, rfl, s2.ag (by decide), ?_⟩)
  refine bX10_becomesUp_29 (s_notes p1 (by rw [s2 _ (by decide)]; exact p5) (fun I3 s3 w1 w2 w3 => bX10_becomesUp_33 ?_))
  have f28 : I3 3392 28 = nI U := by rw [s3 3392 (by decide), s2 3392 (by decide)]; exact m4
  rw [f28, i_1shl (by omega), i_xor, x_up_at]
  have s4 : Sm [3456, 3143, 3392] I2 (x_up I3 3392 28 (nI (U ^^^ 2 ^ l))) := (s3.mono (by decide)).up (by decide)
  have b1 : (x_up I3 3392 28 (nI (U ^^^ 2 ^ l))) 3392 28 = nI (U ^^^ 2 ^ l) := x_up_at
  have b2 : ∀ j, j ≠ 28 → (x_up I3 3392 28 (nI (U ^^^ 2 ^ l))) 3392 j = I3 3392 j := fun j hj => x_up_off hj
  have b3 : Sm [3392] I3 (x_up I3 3392 28 (nI (U ^^^ 2 ^ l))) := Sm.rf.up (by decide)
  generalize (x_up I3 3392 28 (nI (U ^^^ 2 ^ l))) = I4 at s4 b1 b2 b3 ⊢
  have s : Sm [768, 832, 896, 960, 709, 710, 66, 3456, 3143, 3392] I I4 := (s2.mono (by decide)).tr (s4.mono (by decide))
  have s14 : Sm [66, 3456, 3143, 3392] I1 I4 := (a3.mono (by decide)).tr (s4.mono (by decide))
  have st : ∀ j, j ≠ 28 → I4 3392 j = I 3392 j := fun j hj => by rw [show I4 3392 j = I3 3392 j from b2 j hj, s3 3392 (by decide), s2 3392 (by decide)]
  refine s_ones hU2 (by decide) (bX10_becomesUp_56 ⟨?_, ?_⟩)
  · rw [g_pc_ext 14 32 _ hU2 (by omega)]
  refine ⟨(n, ln, lo, hi, c0, c1, U ^^^ 2 ^ l, seen), ⟨hok.1, hok.2.1, hok.2.2.1, hU', hok.2.2.2.2⟩, ⟨⟨g1.sm s (by decide) (by decide) (by decide) (by decide), fun j hj => ?_, fun j hj => ?_, ?_, fun u hu => ?_⟩, m1.sm s (by decide) (by decide) (by decide) (by decide), fun j hj => ?_, fun j hj => ?_, b1, fun u hu => ?_⟩, hTx.ag (s.ag (by decide)), hLi.ag (s.ag (by decide)), hTr.ag (s.ag (by decide)), hPr.ag (s.ag (by decide)), ?_, hLe.ag (s.ag (by decide)) (by omega)⟩
  · rw [s _ (by decide)]; exact g2 j hj
  · rw [s _ (by decide)]; exact g3 j hj
  · rw [s4 _ (by decide)]; exact a2
  · rw [s _ (by decide)]; exact g5 u hu
  · rw [st _ (by omega)]; exact m2 j hj
  · rw [st _ (by omega)]; exact m3 j hj
  · rw [st _ (by omega)]; exact m5 u hu
  · refine rPa_push p1 p2 p6 hok p7 ?_ ?_ ?_ (Or.inl ⟨?_, U, ?_, rfl⟩) (fun p hp => ?_) ?_ (fun j hj => ?_)
    · rw [s14 _ (by decide)]; exact d4
    · rw [s14 _ (by decide)]; exact d3
    · rw [b3 _ (by decide)]; exact w1
    · rw [s14 _ (by decide)]; exact d1.1
    · rw [s14 _ (by decide)]; exact d1.2.2.1.trans e66
    · rw [s14 768 (by decide), s14 832 (by decide), s14 896 (by decide), s14 960 (by decide)]; exact d2 p hp
    · refine mSn_of h23.2 hln hn8 (fun j hj => ?_)
      rw [b3 _ (by decide), w2 j hj, s2 _ (by decide)]
    · rw [b3 _ (by decide), w3 j hj, s2 _ (by decide)]
theorem o_fail {k : Nat} {x : Int32} {I : Nat → Nat → Int32} {L : Nat → Int64} (h : Rel k I) : Op k mX9_fail mX10_fail [(1, .int x)] I L := by
  have h' := h
  obtain ⟨σ, hok, h23, hTx, hLi, hTr, hPr, hPa, hLe⟩ := h
  obtain ⟨n, ln, lo, hi, c0, c1, U, seen⟩ := σ
  obtain ⟨hN, -, -, -, -, hU, -⟩ := g_okS_eN hok
  have hln := hN.2.2.1
  obtain ⟨⟨g1, g2, g3, g4, g5⟩, ⟨m1, m2, m3, m4, m5⟩⟩ := id h23
  refine bX9_fail_0 (c_hasLink g1 ?_)
  cases hx : g_is ln x with
  | false =>
    refine bX9_fail_8 (fun q => absurd rfl q) (fun _ => bX9_fail_11 ⟨_, rfl, bX10_fail_0 (bX10_becomesUp_0 (s_isLink m1 (by omega) ?_))⟩)
    rw [hx]
    exact bX10_becomesUp_5 (fun q => absurd rfl q) (fun _ => bX10_becomesUp_8 (bX10_fail_6 ⟨rfl, h'.up⟩))
  | true =>
    obtain ⟨l, hl, rfl⟩ := (g_is_iff (by omega)).mp hx
    refine bX9_fail_8 (fun _ => bX9_fail_14 (c_isUp g4 hU (by omega) ?_)) (fun q => absurd q (by decide))
    cases hb : U.testBit l with
    | false =>
      refine bX9_fail_22 (fun _ => bX9_fail_33 (bX9_fail_35 ⟨_, rfl, bX10_fail_0 (bX10_becomesUp_0 (s_isLink m1 (by omega) ?_))⟩)) (fun q => absurd rfl q)
      rw [hx]
      refine bX10_becomesUp_5 (fun _ => bX10_becomesUp_11 (fun q => ?_) (fun _ => bX10_becomesUp_26 (bX10_fail_6 ⟨rfl, h'.up⟩))) (fun q => absurd q (by decide))
      rw [show I 3392 28 = nI U from m4, i_bit hU (by omega), hb] at q
      exact absurd rfl q
    | true =>
      refine bX9_fail_22 (fun q => absurd q (by decide)) (fun _ => bX9_fail_25 (xs_mono (o_turnGo hok h23 hTx hLi hTr hPr hPa hLe hl) ?_))
      rintro r I1 L1 ⟨v, rfl, ag, X⟩
      have m1' : mG I1 n ln lo hi := ⟨by rw [ag _ (by decide)]; exact m1.1, by rw [ag _ (by decide)]; exact m1.2.1, fun j hj => by rw [ag 3200 (by decide), ag 3264 (by decide)]; exact m1.2.2 j hj⟩
      refine bX9_fail_30 (bX9_fail_35 ⟨_, rfl, bX10_fail_0 (bX10_becomesUp_0 (s_isLink m1' (by omega) ?_))⟩)
      rw [hx]
      refine bX10_becomesUp_5 (fun _ => bX10_becomesUp_11 (fun _ => xs_mono X ?_) (fun q => ?_)) (fun q => absurd q (by decide))
      · rintro r I2 L2 ⟨rfl, hR⟩
        exact bX10_fail_6 ⟨rfl, hR⟩
      · rw [ag 3392 (by decide), show I 3392 28 = nI U from m4, i_bit hU (by omega), hb] at q
        exact absurd q (by decide)
theorem o_heal {k : Nat} {x : Int32} {I : Nat → Nat → Int32} {L : Nat → Int64} (h : Rel k I) : Op k mX9_heal mX10_heal [(1, .int x)] I L := by
  have h' := h
  obtain ⟨σ, hok, h23, hTx, hLi, hTr, hPr, hPa, hLe⟩ := h
  obtain ⟨n, ln, lo, hi, c0, c1, U, seen⟩ := σ
  obtain ⟨hN, -, -, -, -, hU, -⟩ := g_okS_eN hok
  have hln := hN.2.2.1
  obtain ⟨⟨g1, g2, g3, g4, g5⟩, ⟨m1, m2, m3, m4, m5⟩⟩ := id h23
  refine bX9_heal_0 (c_hasLink g1 ?_)
  cases hx : g_is ln x with
  | false =>
    refine bX9_heal_8 (fun q => absurd rfl q) (fun _ => bX9_heal_11 ⟨_, rfl, bX10_heal_0 (bX10_becomesUp_0 (s_isLink m1 (by omega) ?_))⟩)
    rw [hx]
    exact bX10_becomesUp_5 (fun q => absurd rfl q) (fun _ => bX10_becomesUp_8 (bX10_heal_6 ⟨rfl, h'.up⟩))
  | true =>
    obtain ⟨l, hl, rfl⟩ := (g_is_iff (by omega)).mp hx
    refine bX9_heal_8 (fun _ => bX9_heal_14 (c_isUp g4 hU (by omega) ?_)) (fun q => absurd q (by decide))
    cases hb : U.testBit l with
    | true =>
      refine bX9_heal_22 (fun q => absurd q (by decide)) (fun _ => bX9_heal_25 (bX9_heal_35 ⟨_, rfl, bX10_heal_0 (bX10_becomesUp_0 (s_isLink m1 (by omega) ?_))⟩))
      rw [hx]
      refine bX10_becomesUp_5 (fun _ => bX10_becomesUp_11 (fun q => ?_) (fun _ => bX10_becomesUp_26 (bX10_heal_6 ⟨rfl, h'.up⟩))) (fun q => absurd q (by decide))
      rw [show I 3392 28 = nI U from m4, i_bit hU (by omega), hb] at q
      exact absurd rfl q
    | false =>
      refine bX9_heal_22 (fun _ => bX9_heal_30 (xs_mono (o_turnGo hok h23 hTx hLi hTr hPr hPa hLe hl) ?_)) (fun q => absurd rfl q)
      rintro r I1 L1 ⟨v, rfl, ag, X⟩
      have m1' : mG I1 n ln lo hi := ⟨by rw [ag _ (by decide)]; exact m1.1, by rw [ag _ (by decide)]; exact m1.2.1, fun j hj => by rw [ag 3200 (by decide), ag 3264 (by decide)]; exact m1.2.2 j hj⟩
      refine bX9_heal_35 ⟨_, rfl, bX10_heal_0 (bX10_becomesUp_0 (s_isLink m1' (by omega) ?_))⟩
      rw [hx]
      refine bX10_becomesUp_5 (fun _ => bX10_becomesUp_11 (fun _ => xs_mono X ?_) (fun q => ?_)) (fun q => absurd q (by decide))
      · rintro r I2 L2 ⟨rfl, hR⟩
        exact bX10_heal_6 ⟨rfl, hR⟩
      · rw [ag 3392 (by decide), show I 3392 28 = nI U from m4, i_bit hU (by omega), hb] at q
        exact absurd q (by decide)
theorem i_19 {x : Int32} (h : ¬ x < 1 ∧ ¬ (9 : Int32) < x) : ∃ c, 1 ≤ c ∧ c ≤ 9 ∧ x = nI c := by
  rcases i_cases x with q | ⟨a, ha, rfl⟩
  · exfalso
    apply h.1
    rw [Int32.lt_iff_toInt_lt] at q ⊢
    have e0 : (0 : Int32).toInt = 0 := by decide
    have e1 : (1 : Int32).toInt = 1 := by decide
    omega
  · refine ⟨a, ?_, ?_, rfl⟩
    · have : ¬ a < 1 := fun z => h.1 ((i_lt a 1 rfl rfl ha (by decide)).mpr z)
      omega
    · have : ¬ 9 < a := fun z => h.2 ((i_lt 9 a rfl rfl (by decide) ha).mpr z)
      omega
theorem g_set_back (f : Nat → Nat) (l v : Nat) : f = g_set (g_set f l v) l (f l) := by
  funext j
  unfold g_set
  by_cases h : j = l
  · subst h; simp
  · simp [h]
theorem o_tune {k : Nat} {x y z : Int32} {I : Nat → Nat → Int32} {L : Nat → Int64} (h : Rel k I) : Op k mX9_tune mX10_tune [(1, .int x), (2, .int y), (3, .int z)] I L := by
  have h' := h
  obtain ⟨σ, hok, h23, hTx, hLi, hTr, hPr, hPa, hLe⟩ := h
  obtain ⟨n, ln, lo, hi, c0, c1, U, seen⟩ := σ
  obtain ⟨hN, hc0, hc1, -, -, hU, -⟩ := g_okS_eN hok
  have hln := hN.2.2.1
  have hn8 := hN.2.1
  obtain ⟨⟨g1, g2, g3, g4, g5⟩, ⟨m1, m2, m3, m4, m5⟩⟩ := id h23
  refine bX9_tune_0 (c_hasLink g1 ?_)
  cases hx : g_is ln x with
  | false =>
    refine bX9_tune_8 (fun q => absurd rfl q) (fun _ => bX9_tune_11 ⟨_, rfl, bX10_tune_0 (s_isLink m1 (by omega) ?_)⟩)
    rw [hx]
    exact bX10_tune_5 (fun q => absurd rfl q) (fun _ => bX10_tune_8 ⟨rfl, h'.up⟩)
  | true =>
    obtain ⟨l, hl, rfl⟩ := (g_is_iff (by omega)).mp hx
    have bad : ¬ ((¬ y < 1 ∧ ¬ (9 : Int32) < y) ∧ (¬ z < 1 ∧ ¬ (9 : Int32) < z)) → XS mX9_tune 36 [] [] I L (fun r I1 L1 => ∃ v, r = some (.int v) ∧ XS mX10_tune 0 [(0, .ref 49), (1, .int (nI l)), (2, .int y), (3, .int z)] [] I1 L1 (fun r2 I2 _ => r2 = some (.int v) ∧ Rel (k + 1) I2)) := fun hb => by
      refine bX9_tune_36 ⟨_, rfl, bX10_tune_0 (s_isLink m1 (by omega) ?_)⟩
      rw [hx]
      refine bX10_tune_5 (fun _ => bX10_tune_11 (s_in (a := 0) (b := 0) (c := 0) (decide (¬ y < 1 ∧ ¬ (9 : Int32) < y)) (by rw [decide_eq_true_eq]) ?_)) (fun q => absurd q (by decide))
      cases hy : decide (¬ y < 1 ∧ ¬ (9 : Int32) < y) with
      | false => exact bX10_tune_18 (fun _ => bX10_tune_31 ⟨rfl, h'.up⟩) (fun q => absurd rfl q)
      | true =>
        refine bX10_tune_18 (fun q => absurd q (by decide)) (fun _ => bX10_tune_21 (s_in (a := 0) (b := 0) (c := 0) false ⟨fun q => (by cases q), fun q => absurd ⟨of_decide_eq_true hy, q⟩ hb⟩ ?_))
        exact bX10_tune_28 (fun q => absurd rfl q) (fun _ => bX10_tune_31 ⟨rfl, h'.up⟩)
    refine bX9_tune_8 (fun _ => bX9_tune_14 (fun q => bad (fun w => w.1.1 q)) (fun q1 => bX9_tune_19 (fun q => bad (fun w => w.1.2 q)) (fun q2 => bX9_tune_25 (fun q => bad (fun w => w.2.1 q)) (fun q3 => bX9_tune_30 (fun q4 => ?_) (fun q => bad (fun w => q (Int32.not_lt.mp w.2.2))))))) (fun q => absurd q (by decide))
    have q4' : ¬ (9 : Int32) < z := Int32.not_lt.mpr q4
    obtain ⟨c, hc1', hc9, rfl⟩ := i_19 ⟨q1, q2⟩
    obtain ⟨d, hd1, hd9, rfl⟩ := i_19 ⟨q3, q4'⟩
    obtain ⟨a, ah, H, p1, p2, p3, p4, p5, p6, p7⟩ := hPa
    have hv : vp_in (nI l) 14 := vp_in_nI (by omega) (by decide)
    have e256 : I 256 l = nI (c0 l) := g2 l hl
    have e320 : I 320 l = nI (c1 l) := g3 l hl
    refine bX9_tune_39 hv (bX3_keepPrices_0 hv hv ?_)
    rw [nI_clamp (by omega), e256, e320]
    refine c_pkeep p1 p2 p3 p4 (fun I1 s1 d1 d2 d3 d4 => bX3_keepPrices_24 (bX9_tune_58 hv hv ⟨_, rfl, ?_⟩))
    rw [nI_clamp (by omega)]
    have a3 : Sm [256, 320] I1 (x_up (x_up I1 256 l (nI c)) 320 l (nI d)) := (Sm.rf.up (by decide)).up (by decide)
    have a4 : ∀ j, (x_up (x_up I1 256 l (nI c)) 320 l (nI d)) 256 j = (if j = l then nI c else I1 256 j) ∧ (x_up (x_up I1 256 l (nI c)) 320 l (nI d)) 320 j = (if j = l then nI d else I1 320 j) := fun j => by
      constructor
      · rw [x_up_ne (by decide), x_up_app]; simp
      · rw [x_up_app, x_up_ne (by decide)]; simp
    generalize (x_up (x_up I1 256 l (nI c)) 320 l (nI d)) = I2 at a3 a4 ⊢
    have s2 : Sm [768, 832, 896, 960, 709, 710, 256, 320] I I2 := (s1.mono (by decide)).tr (a3.mono (by decide))
    have m1' : mG I2 n ln lo hi := m1.sm s2 (by decide) (by decide) (by decide) (by decide)
    refine bX10_tune_0 (s_isLink m1' (by omega) ?_)
    rw [hx]
    refine bX10_tune_5 (fun _ => bX10_tune_11 (s_in (a := 0) (b := 0) (c := 0) true ⟨fun _ => ⟨q1, q2⟩, fun _ => rfl⟩ (bX10_tune_18 (fun q => absurd q (by decide)) (fun _ => bX10_tune_21 (s_in (a := 0) (b := 0) (c := 0) true ⟨fun _ => ⟨q3, q4'⟩, fun _ => rfl⟩ (bX10_tune_28 (fun _ => bX10_tune_34 ?_) (fun q => absurd q (by decide)))))))) (fun q => absurd q (by decide))
    have hv2 : vp_in ((0 : Int32) + nI l) 37 := i_vp (0 + l) (nI_add 0 l) (by omega) (by decide)
    have hv3 : vp_in ((14 : Int32) + nI l) 37 := i_vp (14 + l) (nI_add 14 l) (by omega) (by decide)
    refine s_notes p1 (by rw [s2 _ (by decide)]; exact p5) (fun I3 s3 w1 w2 w3 => bX10_tune_38 hv2 hv2 hv3 ?_)
    rw [i_cl (x := (0 : Int32) + nI l) (0 + l) (nI_add 0 l) (by omega), i_cl (x := (14 : Int32) + nI l) (14 + l) (nI_add 14 l) (by omega)]
    have b1 : ∀ j, (x_up (x_up I3 3392 (0 + l) (nI c)) 3392 (14 + l) (nI d)) 3392 j = if j = 14 + l then nI d else if j = l then nI c else I3 3392 j := fun j => by
      rw [x_up_app, x_up_app, Nat.zero_add]; simp
    have b3 : Sm [3392] I3 (x_up (x_up I3 3392 (0 + l) (nI c)) 3392 (14 + l) (nI d)) := (Sm.rf.up (by decide)).up (by decide)
    generalize (x_up (x_up I3 3392 (0 + l) (nI c)) 3392 (14 + l) (nI d)) = I4 at b1 b3 ⊢
    have s4 : Sm [3456, 3143, 3392] I2 I4 := (s3.mono (by decide)).tr (b3.mono (by decide))
    have s : Sm [768, 832, 896, 960, 709, 710, 256, 320, 3456, 3143, 3392] I I4 := (s2.mono (by decide)).tr (s4.mono (by decide))
    have s14 : Sm [256, 320, 3456, 3143, 3392] I1 I4 := (a3.mono (by decide)).tr (s4.mono (by decide))
    have st3 : ∀ j, I3 3392 j = I 3392 j := fun j => by rw [s3 3392 (by decide), s2 3392 (by decide)]
    have x0 : ∀ j, j < ln → I 3392 j = nI (c0 j) := fun j hj => by have := m2 j hj; rw [Nat.mul_zero, Nat.zero_add] at this; exact this
    have x1 : ∀ j, j < ln → I 3392 (14 + j) = nI (c1 j) := fun j hj => by have := m3 j hj; rw [Nat.mul_one] at this; exact this
    refine ⟨?_, (n, ln, lo, hi, g_set c0 l c, g_set c1 l d, U, seen), ⟨hok.1, fun j hj => ?_, fun j hj => ?_, hok.2.2.2.1, hok.2.2.2.2⟩, ⟨⟨g1.sm s (by decide) (by decide) (by decide) (by decide), fun j hj => ?_, fun j hj => ?_, ?_, fun u hu => ?_⟩, m1.sm s (by decide) (by decide) (by decide) (by decide), fun j hj => ?_, fun j hj => ?_, ?_, fun u hu => ?_⟩, hTx.ag (s.ag (by decide)), hLi.ag (s.ag (by decide)), hTr.ag (s.ag (by decide)), hPr.ag (s.ag (by decide)), ?_, hLe.ag (s.ag (by decide)) (by omega)⟩
    · rw [st3, Nat.zero_add, x0 l hl]
    · by_cases hjl : j = l
      · subst hjl; rw [g_set_at]; omega
      · rw [g_set_off hjl]; exact hc0 j hj
    · by_cases hjl : j = l
      · subst hjl; rw [g_set_at]; omega
      · rw [g_set_off hjl]; exact hc1 j hj
    · rw [s4 _ (by decide)]
      show I2 256 j = _
      rw [(a4 j).1, s1 256 (by decide)]
      by_cases hjl : j = l
      · rw [if_pos hjl, hjl, g_set_at]
      · rw [if_neg hjl, g_set_off hjl]; exact g2 j hj
    · rw [s4 _ (by decide)]
      show I2 320 j = _
      rw [(a4 j).2, s1 320 (by decide)]
      by_cases hjl : j = l
      · rw [if_pos hjl, hjl, g_set_at]
      · rw [if_neg hjl, g_set_off hjl]; exact g3 j hj
    · rw [s _ (by decide)]; exact g4
    · rw [s _ (by decide)]; exact g5 u hu
    · rw [Nat.mul_zero, Nat.zero_add]
      show I4 3392 j = _
      rw [b1 j, st3, if_neg (by omega), x0 j hj]
      by_cases hjl : j = l
      · rw [if_pos hjl, hjl, g_set_at]
      · rw [if_neg hjl, g_set_off hjl]
    · rw [Nat.mul_one]
      show I4 3392 (14 + j) = _
      rw [b1 (14 + j), st3, x1 j hj]
      by_cases hjl : j = l
      · rw [if_pos (by omega), hjl, g_set_at]
      · rw [if_neg (by omega), if_neg (by omega), g_set_off hjl]
    · show I4 3392 28 = _
      rw [b1 28, st3, if_neg (by omega), if_neg (by omega)]; exact m4
    · show I4 3392 (29 + u) = _
      rw [b1 (29 + u), st3, if_neg (by omega), if_neg (by omega)]; exact m5 u hu
    · refine rPa_push p1 p2 p6 hok p7 ?_ ?_ ?_ (Or.inr (Or.inl ⟨?_, l, c0 l, c1 l, hl, ?_, ?_, ?_, ?_⟩)) (fun p hp => ?_) ?_ (fun j hj => ?_)
      · rw [s14 _ (by decide)]; exact d4
      · rw [s14 _ (by decide)]; exact d3
      · rw [b3 _ (by decide)]; exact w1
      · rw [s14 _ (by decide)]; exact d1.1
      · rw [s14 _ (by decide)]; exact d1.2.1
      · rw [s14 _ (by decide)]; exact d1.2.2.1
      · rw [s14 _ (by decide)]; exact d1.2.2.2
      · show (U, c0, c1, seen) = (U, g_set (g_set c0 l c) l (c0 l), g_set (g_set c1 l d) l (c1 l), seen)
        rw [← g_set_back c0 l c, ← g_set_back c1 l d]
      · rw [s14 768 (by decide), s14 832 (by decide), s14 896 (by decide), s14 960 (by decide)]; exact d2 p hp
      · refine mSn_of h23.2 hln hn8 (fun j hj => ?_)
        rw [b3 _ (by decide), w2 j hj, s2 _ (by decide)]
      · rw [b3 _ (by decide), w3 j hj, s2 _ (by decide)]
theorem o_learn {k : Nat} {x : Int32} {I : Nat → Nat → Int32} {L : Nat → Int64} (h : Rel k I) : Op k mX9_learn mX10_learn [(1, .int x)] I L := by
  have h' := h
  obtain ⟨σ, hok, h23, hTx, hLi, hTr, hPr, hPa, hLe⟩ := h
  obtain ⟨n, ln, lo, hi, c0, c1, U, seen⟩ := σ
  obtain ⟨hN, hc0, hc1, hU14, hS14, hU, -⟩ := g_okS_eN hok
  have hln := hN.2.2.1
  have hn8 := hN.2.1
  obtain ⟨⟨g1, g2, g3, g4, g5⟩, ⟨m1, m2, m3, m4, m5⟩⟩ := id h23
  refine bX9_learn_0 (c_hasNode g1 ?_)
  cases hx : g_is n x with
  | false =>
    refine bX9_learn_8 (fun q => absurd rfl q) (fun _ => bX9_learn_11 ⟨_, rfl, bX10_learn_0 (s_isNode m1 (by omega) ?_)⟩)
    rw [hx]
    exact bX10_learn_5 (fun q => absurd rfl q) (fun _ => bX10_learn_8 ⟨rfl, h'.up⟩)
  | true =>
    obtain ⟨u, hu, rfl⟩ := (g_is_iff (by omega)).mp hx
    obtain ⟨a, ah, H, p1, p2, p3, p4, p5, p6, p7⟩ := hPa
    have hv : vp_in (nI u) 8 := vp_in_nI (by omega) (by decide)
    have e448 : I 448 u = nI (seen u) := g5 u hu
    have e66 : I 66 0 = nI U := g4
    have hxr : seen u ^^^ U < 2 ^ 14 := Nat.xor_lt_two_pow (hS14 u hu) hU14
    refine bX9_learn_8 (fun _ => bX9_learn_14 hv ?_) (fun q => absurd q (by decide))
    rw [nI_clamp (by omega), e448, e66, i_xor]
    refine c_bitCount (by omega) (bX9_learn_34 (bX3_keepSeen_0 hv ?_))
    rw [nI_clamp (by omega), e448]
    refine c_pkeep p1 p2 p3 p4 (fun I1 s1 d1 d2 d3 d4 => bX3_keepSeen_16 (bX9_learn_43 hv ⟨_, rfl, ?_⟩))
    rw [nI_clamp (by omega), s1 66 (by decide), e66]
    have a3 : Sm [448] I1 (x_up I1 448 u (nI U)) := Sm.rf.up (by decide)
    have a4 : ∀ j, (x_up I1 448 u (nI U)) 448 j = (if j = u then nI U else I1 448 j) := fun j => by
      rw [x_up_app]; simp
    generalize (x_up I1 448 u (nI U)) = I2 at a3 a4 ⊢
    have s2 : Sm [768, 832, 896, 960, 709, 710, 448] I I2 := (s1.mono (by decide)).tr (a3.mono (by decide))
    have m1' : mG I2 n ln lo hi := m1.sm s2 (by decide) (by decide) (by decide) (by decide)
    refine bX10_learn_0 (s_isNode m1' (by omega) ?_)
    rw [hx]
    have hv2 : vp_in ((29 : Int32) + nI u) 37 := i_vp (29 + u) (nI_add 29 u) (by omega) (by decide)
    refine bX10_learn_5 (fun _ => bX10_learn_11 (s_notes p1 (by rw [s2 _ (by decide)]; exact p5) (fun I3 s3 w1 w2 w3 => bX10_learn_15 hv2 ?_))) (fun q => absurd q (by decide))
    have st3 : ∀ j, I3 3392 j = I 3392 j := fun j => by rw [s3 3392 (by decide), s2 3392 (by decide)]
    rw [i_cl (x := (29 : Int32) + nI u) (29 + u) (nI_add 29 u) (by omega), st3, st3, show I 3392 (29 + u) = nI (seen u) from m5 u hu, show I 3392 28 = nI U from m4, i_xor]
    refine s_ones hxr (by decide) (bX10_learn_35 hv2 ?_)
    rw [i_cl (x := (29 : Int32) + nI u) (29 + u) (nI_add 29 u) (by omega), st3, show I 3392 28 = nI U from m4]
    have b1 : ∀ j, (x_up I3 3392 (29 + u) (nI U)) 3392 j = if j = 29 + u then nI U else I3 3392 j := fun j => by
      rw [x_up_app]; simp
    have b3 : Sm [3392] I3 (x_up I3 3392 (29 + u) (nI U)) := Sm.rf.up (by decide)
    generalize (x_up I3 3392 (29 + u) (nI U)) = I4 at b1 b3 ⊢
    have s4 : Sm [3456, 3143, 3392] I2 I4 := (s3.mono (by decide)).tr (b3.mono (by decide))
    have s : Sm [768, 832, 896, 960, 709, 710, 448, 3456, 3143, 3392] I I4 := (s2.mono (by decide)).tr (s4.mono (by decide))
    have s14 : Sm [448, 3456, 3143, 3392] I1 I4 := (a3.mono (by decide)).tr (s4.mono (by decide))
    have st : ∀ j, j ≠ 29 + u → I4 3392 j = I 3392 j := fun j hj => by
      show I4 3392 j = I 3392 j
      rw [b1 j, if_neg hj, st3]
    refine ⟨?_, (n, ln, lo, hi, c0, c1, U, g_set seen u U), ⟨hok.1, hok.2.1, hok.2.2.1, hok.2.2.2.1, fun j hj => ?_⟩, ⟨⟨g1.sm s (by decide) (by decide) (by decide) (by decide), fun j hj => ?_, fun j hj => ?_, ?_, fun w hw => ?_⟩, m1.sm s (by decide) (by decide) (by decide) (by decide), fun j hj => ?_, fun j hj => ?_, ?_, fun w hw => ?_⟩, hTx.ag (s.ag (by decide)), hLi.ag (s.ag (by decide)), hTr.ag (s.ag (by decide)), hPr.ag (s.ag (by decide)), ?_, hLe.ag (s.ag (by decide)) (by omega)⟩
    · rw [g_pc_ext 14 32 _ hxr (by omega)]
    · by_cases hju : j = u
      · rw [hju, g_set_at]; exact hok.2.2.2.1
      · rw [g_set_off hju]; exact hok.2.2.2.2 j hj
    · rw [s _ (by decide)]; exact g2 j hj
    · rw [s _ (by decide)]; exact g3 j hj
    · rw [s _ (by decide)]; exact g4
    · rw [s4 _ (by decide)]
      show I2 448 w = _
      rw [a4 w, s1 448 (by decide)]
      by_cases hwu : w = u
      · rw [if_pos hwu, hwu, g_set_at]
      · rw [if_neg hwu, g_set_off hwu]; exact g5 w hw
    · rw [st _ (by omega)]; exact m2 j hj
    · rw [st _ (by omega)]; exact m3 j hj
    · rw [st _ (by omega)]; exact m4
    · by_cases hwu : w = u
      · rw [hwu, g_set_at]
        show I4 3392 (29 + u) = _
        rw [b1, if_pos rfl]
      · rw [st _ (by omega), g_set_off hwu]; exact m5 w hw
    · refine rPa_push p1 p2 p6 hok p7 ?_ ?_ ?_ (Or.inr (Or.inr ⟨?_, u, seen u, hu, ?_, ?_, ?_⟩)) (fun p hp => ?_) ?_ (fun j hj => ?_)
      · rw [s14 _ (by decide)]; exact d4
      · rw [s14 _ (by decide)]; exact d3
      · rw [b3 _ (by decide)]; exact w1
      · rw [s14 _ (by decide)]; exact d1.1
      · rw [s14 _ (by decide)]; exact d1.2.1
      · rw [s14 _ (by decide)]; exact d1.2.2.1
      · show (U, c0, c1, seen) = (U, c0, c1, g_set (g_set seen u U) u (seen u))
        rw [← g_set_back seen u U]
      · rw [s14 768 (by decide), s14 832 (by decide), s14 896 (by decide), s14 960 (by decide)]; exact d2 p hp
      · refine mSn_of h23.2 hln hn8 (fun j hj => ?_)
        rw [b3 _ (by decide), w2 j hj, s2 _ (by decide)]
      · rw [b3 _ (by decide), w3 j hj, s2 _ (by decide)]
