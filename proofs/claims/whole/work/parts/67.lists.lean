/-! ===== calls on lists ===== -/
theorem o_repair {k : Nat} {x y z t : Int32} {I : Nat → Nat → Int32} {L : Nat → Int64} (h : Rel k I) : Op k mX9_repair mX10_repair [(1, .int x), (2, .int y), (3, .int z), (4, .int t)] I L := by
  have h' := h
  obtain ⟨n, ln, lo, hi, c0, c1, U, seen, ⟨hN, hc0, hc1, -, -, hU, hS⟩, ⟨g1, g2, g3, g4, g5⟩, m1, m2, m3, m4, m5⟩ := h.opn
  have hn8 := hN.2.1
  have hln := hN.2.2.1
  have bad : (g_is n x && (g_is ln y && g_is n z)) = false ∨ z = x → ∀ I L (Q : Option Value → (Nat → Nat → Int32) → (Nat → Int64) → Prop), mG I n ln lo hi → Q (some (.int (-2))) I L → XS mX10_repair 0 [(0, .ref 49), (1, .int x), (2, .int y), (3, .int z), (4, .int t)] [] I L Q := fun hb I L Q m1 K => by
    refine bX10_repair_0 (s_isNode m1 (by omega) ?_)
    cases hx : g_is n x with
    | false => exact bX10_repair_5 (fun _ => bX10_repair_29 K) (fun q => absurd rfl q)
    | true =>
      refine bX10_repair_5 (fun q => absurd q (by decide)) (fun _ => bX10_repair_8 (s_isLink m1 (by omega) ?_))
      cases hy : g_is ln y with
      | false => exact bX10_repair_13 (fun _ => bX10_repair_29 K) (fun q => absurd rfl q)
      | true =>
        refine bX10_repair_13 (fun q => absurd q (by decide)) (fun _ => bX10_repair_16 (s_isNode m1 (by omega) ?_))
        cases hz : g_is n z with
        | false => exact bX10_repair_21 (fun _ => bX10_repair_29 K) (fun q => absurd rfl q)
        | true =>
          rw [hx, hy, hz] at hb
          refine bX10_repair_21 (fun q => absurd q (by decide)) (fun _ => bX10_repair_24 (fun q => ?_) (fun _ => bX10_repair_29 K))
          rcases hb with hb | hb
          · cases hb
          · exact absurd hb.symm q
  refine bX9_repair_0 (c_hasNode g1 ?_)
  cases hx : g_is n x with
  | false => exact bX9_repair_8 (fun _ => bX9_repair_38 ⟨_, rfl, bad (Or.inl (by rw [hx]; rfl)) _ _ _ m1 ⟨rfl, h'.up⟩⟩) (fun q => absurd rfl q)
  | true =>
    refine bX9_repair_8 (fun q => absurd q (by decide)) (fun _ => bX9_repair_11 (c_hasLink g1 ?_))
    cases hy : g_is ln y with
    | false => exact bX9_repair_19 (fun _ => bX9_repair_38 ⟨_, rfl, bad (Or.inl (by rw [hx, hy]; rfl)) _ _ _ m1 ⟨rfl, h'.up⟩⟩) (fun q => absurd rfl q)
    | true =>
      refine bX9_repair_19 (fun q => absurd q (by decide)) (fun _ => bX9_repair_22 (c_hasNode g1 ?_))
      cases hz : g_is n z with
      | false => exact bX9_repair_30 (fun _ => bX9_repair_38 ⟨_, rfl, bad (Or.inl (by rw [hx, hy, hz]; rfl)) _ _ _ m1 ⟨rfl, h'.up⟩⟩) (fun q => absurd rfl q)
      | true =>
        refine bX9_repair_30 (fun q => absurd q (by decide)) (fun _ => bX9_repair_33 (fun hne => ?_) (fun he => bX9_repair_38 ⟨_, rfl, bad (Or.inr he) _ _ _ m1 ⟨rfl, h'.up⟩⟩))
        have ref : ∀ I L (Q : Option Value → (Nat → Nat → Int32) → (Nat → Int64) → Prop), mG I n ln lo hi → XS mX10_repair 32 [(0, .ref 49), (1, .int x), (2, .int y), (3, .int z), (4, .int t)] [] I L Q → XS mX10_repair 0 [(0, .ref 49), (1, .int x), (2, .int y), (3, .int z), (4, .int t)] [] I L Q := fun I L Q m1 K => by
          refine bX10_repair_0 (s_isNode m1 (by omega) ?_)
          rw [hx]
          refine bX10_repair_5 (fun q => absurd q (by decide)) (fun _ => bX10_repair_8 (s_isLink m1 (by omega) ?_))
          rw [hy]
          refine bX10_repair_13 (fun q => absurd q (by decide)) (fun _ => bX10_repair_16 (s_isNode m1 (by omega) ?_))
          rw [hz]
          exact bX10_repair_21 (fun q => absurd q (by decide)) (fun _ => bX10_repair_24 (fun _ => K) (fun q => absurd q.symm hne))
        refine bX9_repair_41 (fun q => ?_) (fun q => bX9_repair_47 ⟨_, rfl, ref _ _ _ m1 (bX10_repair_32 (fun q2 => absurd q2 q) (fun _ => bX10_repair_38 ⟨rfl, h'.up⟩))⟩)
        have ht : ¬ t < -1 := i_ge_m1.mp q
        obtain ⟨u, hu, rfl⟩ := (g_is_iff (by omega)).mp hx
        obtain ⟨l, hl, rfl⟩ := (g_is_iff (by omega)).mp hy
        obtain ⟨w, hw, rfl⟩ := (g_is_iff (by omega)).mp hz
        refine bX9_repair_50 (c_findRepair g1 hN g2 g3 hc0 hc1 (hS u hu) (by omega) hu hw (g5 u hu) (fun I1 b T s1 hr hT => ?_))
        have m1' : mG I1 n ln lo hi := m1.sm s1 (by decide) (by decide) (by decide) (by decide)
        have go : ∀ (v : Int32) (L1 : Nat → Int64), v = (if b = true then g_told T (fun t => 100 * I1 2624 t + I1 2688 t) t else -4) → XS mX10_repair 0 [(0, .ref 49), (1, .int (nI u)), (2, .int (nI l)), (3, .int (nI w)), (4, .int t)] [] I1 L1 (fun r2 I2 _ => r2 = some (.int v) ∧ Rel (k + 1) I2) := by
          rintro v L1 rfl
          refine ref I1 L1 _ m1' (bX10_repair_32 (fun _ => bX10_repair_41 ?_) (fun q2 => absurd q q2))
          refine s_repairs m1' hN (m2.sm s1 (by decide)) (m3.sm s1 (by decide)) hc0 hc1 (hS u hu) (by omega) hu hw (by rw [s1 _ (by decide)]; exact m5 u hu) (fun I2 b2 T2 s2 hr2 hT2 => ?_)
          have hR : Rel (k + 1) I2 := (h'.sm s1 (by decide) (Nat.le_refl _)).sm s2 (by decide) (by omega)
          obtain ⟨e1, e2⟩ := g_RP_uni hN hc0 hr2 hr
          subst e1
          cases b2 with
          | false =>
            refine bX10_repair_48 (fun _ => bX10_repair_60 (bX10_repair_62 ⟨?_, hR⟩)) (fun q2 => absurd rfl q2)
            rw [if_neg (by simp)]
          | true =>
            obtain ⟨e3, e4⟩ := e2 rfl
            subst e3
            have hT8 := (g_RP_ok hN hr2).1
            refine bX10_repair_48 (fun q2 => absurd q2 (by decide)) (fun _ => bX10_repair_51 (s_shortAt ht (hT2 rfl) (by omega) (bX10_repair_57 (bX10_repair_62 ⟨?_, hR⟩))))
            rw [if_pos rfl]
            exact congrArg (fun z => some (Value.int z)) (g_told_congr (by omega) (fun j hj => by rw [show I2 3968 j = I1 2624 j from (e4 j hj).1, show I2 4032 j = I1 2688 j from (e4 j hj).2]))
        cases b with
        | false => exact bX9_repair_60 (fun _ => bX9_repair_78 (bX9_repair_80 ⟨_, rfl, go _ _ (by rw [if_neg (by simp)])⟩)) (fun q2 => absurd rfl q2)
        | true =>
          have hT8 := (g_RP_ok hN hr).1
          exact bX9_repair_60 (fun q2 => absurd q2 (by decide)) (fun _ => bX9_repair_63 (c_stold k_found (hT rfl) (by omega) (bX9_repair_75 (bX9_repair_80 ⟨_, rfl, go _ _ (by rw [if_pos rfl])⟩))))
theorem o_brief {k : Nat} {t : Int32} {I : Nat → Nat → Int32} {L : Nat → Int64} (h : Rel k I) : Op k mX9_brief mX10_brief [(1, .int t)] I L := by
  have h' := h
  obtain ⟨σ, h1, ⟨h2, h3⟩, -, -, ⟨m, W, hm8, t1, t2, t3⟩, -⟩ := h
  obtain ⟨n, ln, lo, hi, c0, c1, U, seen⟩ := σ
  obtain ⟨hN, hc0, hc1, -, -, hU, hS⟩ := g_okS_eN h1
  obtain ⟨g1, g2, g3, g4, g5⟩ := h2
  obtain ⟨m1, m2, m3, m4, m5⟩ := h3
  refine bX9_brief_0 (fun q => ?_) (fun q => bX9_brief_5 ⟨_, rfl, bX10_brief_0 (fun q2 => absurd q2 q) (fun _ => bX10_brief_5 ⟨rfl, h'.up⟩)⟩)
  have ht : ¬ t < -1 := i_ge_m1.mp q
  refine bX9_brief_8 (c_findBrief g1 hN g2 g3 hc0 hc1 hm8 t1 (fun p hp => ⟨(t3 p hp).2.1, (t3 p hp).1⟩) (fun u hu => ⟨g5 u hu, hS u hu⟩) (fun I1 b T s1 hr hT => ?_))
  have m1' : mG I1 n ln lo hi := m1.sm s1 (by decide) (by decide) (by decide) (by decide)
  have go : ∀ (v : Int32) (L1 : Nat → Int64), v = (if b = true then g_told T (fun t => 100 * I1 2624 t + I1 2688 t) t else -4) → XS mX10_brief 0 [(0, .ref 49), (1, .int t)] [] I1 L1 (fun r2 I2 _ => r2 = some (.int v) ∧ Rel (k + 1) I2) := by
    rintro v L1 rfl
    refine bX10_brief_0 (fun _ => bX10_brief_8 ?_) (fun q2 => absurd q q2)
    refine s_briefs (W := W) m1' hN (m2.sm s1 (by decide)) (m3.sm s1 (by decide)) hc0 hc1 hm8 (by rw [s1 _ (by decide)]; exact t2) (fun p hp => ⟨by rw [s1 _ (by decide)]; exact (t3 p hp).2.2, (t3 p hp).1⟩) (fun u hu => ⟨by rw [s1 _ (by decide)]; exact m5 u hu, hS u hu⟩) (fun I2 b2 T2 s2 hr2 hT2 => ?_)
    have hR : Rel (k + 1) I2 := (h'.sm s1 (by decide) (Nat.le_refl _)).sm s2 (by decide) (by omega)
    obtain ⟨e1, e2⟩ := g_BR_uni hm8 hr2 hr
    subst e1
    cases b2 with
    | false =>
      refine bX10_brief_12 (fun _ => bX10_brief_23 (bX10_brief_25 ⟨?_, hR⟩)) (fun q2 => absurd rfl q2)
      rw [if_neg (by simp)]
    | true =>
      obtain ⟨e3, e4⟩ := e2 rfl
      subst e3
      have hT8 := (g_BR_ok hN (fun p hp => (t3 p hp).1) hr2).1
      refine bX10_brief_12 (fun q2 => absurd q2 (by decide)) (fun _ => bX10_brief_15 (s_shortAt ht (hT2 rfl) (by omega) (bX10_brief_20 (bX10_brief_25 ⟨?_, hR⟩))))
      rw [if_pos rfl]
      exact congrArg (fun z => some (Value.int z)) (g_told_congr (by omega) (fun j hj => by rw [show I2 3968 j = I1 2624 j from (e4 j hj).1, show I2 4032 j = I1 2688 j from (e4 j hj).2]))
  cases b with
  | false => exact bX9_brief_19 (fun _ => bX9_brief_36 (bX9_brief_38 ⟨_, rfl, go _ _ (by rw [if_neg (by simp)])⟩)) (fun q2 => absurd rfl q2)
  | true =>
    have hT8 := (g_BR_ok hN (fun p hp => (t3 p hp).1) hr).1
    exact bX9_brief_19 (fun q2 => absurd q2 (by decide)) (fun _ => bX9_brief_22 (c_stold k_found (hT rfl) (by omega) (bX9_brief_33 (bX9_brief_38 ⟨_, rfl, go _ _ (by rw [if_pos rfl])⟩))))
theorem o_adopt {k : Nat} {I : Nat → Nat → Int32} {L : Nat → Int64} (h : Rel k I) : Op k mX9_adopt mX10_adopt [] I L := by
  have h' := h
  obtain ⟨σ, h1, ⟨h2, h3⟩, hTx, hLi, ⟨m, W, hm8, t1, t2, t3⟩, h6, h7, h8⟩ := h
  have h1' := h1
  have h23 := And.intro h2 h3
  have hTr : rTr I σ.1 := ⟨m, W, hm8, t1, t2, t3⟩
  obtain ⟨n, ln, lo, hi, c0, c1, U, seen⟩ := σ
  obtain ⟨hN, hc0, hc1, -, -, hU, hS⟩ := g_okS_eN h1
  obtain ⟨g1, g2, g3, g4, g5⟩ := h2
  obtain ⟨m1, m2, m3, m4, m5⟩ := h3
  refine bX9_adopt_0 (c_findBrief g1 hN g2 g3 hc0 hc1 hm8 t1 (fun p hp => ⟨(t3 p hp).2.1, (t3 p hp).1⟩) (fun u hu => ⟨g5 u hu, hS u hu⟩) (fun I1 b T s1 hr hT => ?_))
  have refgo : ∀ I2 (L2 : Nat → Int64) (Q : Option Value → (Nat → Nat → Int32) → (Nat → Int64) → Prop), Sm [1088, 1152, 1216, 2049, 2112, 2176, 2240, 2304, 2368, 2432, 2496, 2562, 2624, 2688, 1666, 1728, 1792] I I2 → (b = false → ∀ I3, Sm [3712, 3840, 3904, 3155, 3968, 4032] I2 I3 → Q (some (.int (-4))) I3 L2) → (b = true → ∀ I3, Sm [3712, 3840, 3904, 3155, 3968, 4032] I2 I3 → I3 3155 0 = nI T → (∀ t, t < T → I3 3968 t = I1 2624 t ∧ I3 4032 t = I1 2688 t) → XS mX10_adopt 10 [(0, .ref 49)] [] I3 L2 Q) → XS mX10_adopt 0 [(0, .ref 49)] [] I2 L2 Q := by
    intro I2 L2 Q s2 K0 K1
    refine bX10_adopt_0 (s_briefs (W := W) (m1.sm s2 (by decide) (by decide) (by decide) (by decide)) hN (m2.sm s2 (by decide)) (m3.sm s2 (by decide)) hc0 hc1 hm8 (by rw [s2 _ (by decide)]; exact t2) (fun p hp => ⟨by rw [s2 _ (by decide)]; exact (t3 p hp).2.2, (t3 p hp).1⟩) (fun u hu => ⟨by rw [s2 _ (by decide)]; exact m5 u hu, hS u hu⟩) (fun I3 b2 T2 s3 hr2 hT2 => ?_))
    obtain ⟨e1, e2⟩ := g_BR_uni hm8 hr2 hr
    subst e1
    cases b2 with
    | false => exact bX10_adopt_4 (fun q => absurd rfl q) (fun _ => bX10_adopt_7 (K0 rfl I3 s3))
    | true =>
      obtain ⟨e3, e4⟩ := e2 rfl
      subst e3
      exact bX10_adopt_4 (fun _ => K1 rfl I3 s3 (hT2 rfl) e4) (fun q => absurd q (by decide))
  cases b with
  | false => exact bX9_adopt_11 (fun q => absurd rfl q) (fun _ => bX9_adopt_14 ⟨_, rfl, refgo I1 _ _ (s1.mono (by decide)) (fun _ I3 s3 => ⟨rfl, (h'.sm s1 (by decide) (Nat.le_refl _)).sm s3 (by decide) (by omega)⟩) (fun q => by cases q)⟩)
  | true =>
    obtain ⟨hT8, hkw⟩ := g_BR_ok hN (fun p hp => (t3 p hp).1) hr
    refine bX9_adopt_11 (fun _ => bX9_adopt_17 (c_stake k_list k_found (by decide) (by decide) (by decide) (hT rfl) (by omega) (by omega) (fun I2 s2 a1 a2 => bX9_adopt_31 ⟨_, rfl, ?_⟩))) (fun q => absurd q (by decide))
    have s12 : Sm [1088, 1152, 1216, 2049, 2112, 2176, 2240, 2304, 2368, 2432, 2496, 2562, 2624, 2688, 1666, 1728, 1792] I I2 := (s1.mono (by decide)).tr (s2.mono (by decide))
    rw [show I2 1666 0 = nI T from a1]
    refine refgo I2 _ _ s12 (fun q => by cases q) (fun _ I3 s3 b1 b2 => ?_)
    have b1' : I3 3155 0 = nI T := b1
    refine bX10_adopt_10 ?_
    rw [b1']
    have loop : ∀ d j I4, j + d = T → Sm [3144, 3520, 3584] I3 I4 → I4 3144 0 = nI T → (∀ i, i < j → I4 3520 i = I1 2624 i ∧ I4 3584 i = I1 2688 i) → XS mX10_adopt 20 [(0, .ref 49), (1, .int (nI j))] [] I4 L (fun r2 I2 _ => r2 = some (.int (nI T)) ∧ Rel (k + 1) I2) := by
      intro d
      induction d with
      | zero =>
        intro j I4 hj s4 d1 d2
        have e : j = T := by omega
        subst e
        refine bX10_adopt_20 (fun _ => bX10_adopt_58 ⟨?_, ?_⟩) (fun q => ?_)
        · rw [show I4 3144 0 = nI j from d1]
        · obtain ⟨F, hF, hFp⟩ := g_list (P := fun t p => I1 2624 t = nI p.1 ∧ I1 2688 t = nI p.2 ∧ g_sg n ln p) j (fun t ht => by
            obtain ⟨k, w, c1, c2, c3, c4, c5⟩ := hkw t ht
            exact ⟨(k, w), c1, c2, c3, c4, c5⟩)
          have s14 : Sm [1088, 1152, 1216, 2049, 2112, 2176, 2240, 2304, 2368, 2432, 2496, 2562, 2624, 2688, 1666, 1728, 1792, 3712, 3840, 3904, 3155, 3968, 4032, 3144, 3520, 3584] I I4 := ((s12.mono (by decide)).tr (s3.mono (by decide))).tr (s4.mono (by decide))
          have s34 : Sm [3712, 3840, 3904, 3155, 3968, 4032, 3144, 3520, 3584] I2 I4 := (s3.mono (by decide)).tr (s4.mono (by decide))
          refine ⟨(n, ln, lo, hi, c0, c1, U, seen), h1', rNe_ag h23 (s14.ag (by decide)), hTx.ag (s14.ag (by decide)), ⟨F, by omega, fun p hp => ?_, ?_, ?_, fun t ht => ?_⟩, hTr.ag (s14.ag (by decide)), h6.ag (s14.ag (by decide)), h7.ag (s14.ag (by decide)), h8.ag (s14.ag (by decide)) (by omega)⟩
          · obtain ⟨t, ht, e⟩ := g_memD hp
            rw [← e]
            exact (hFp t (by omega)).2.2
          · rw [s34 _ (by decide), hF]; exact a1
          · rw [hF]; exact d1
          · rw [hF] at ht
            obtain ⟨c1, c2, -⟩ := hFp t ht
            rw [s34 1728 (by decide), s34 1792 (by decide)]
            exact ⟨(a2 t ht).1.trans c1, (a2 t ht).2.trans c2, (d2 t ht).1.trans c1, (d2 t ht).2.trans c2⟩
        · rw [s4 3155 (by decide), b1'] at q
          exact absurd ((nI_leI (by omega) (by omega)).mpr (Nat.le_refl _)) q
      | succ d ih =>
        intro j I4 hj s4 d1 d2
        have hv : vp_in (nI j) 8 := vp_in_nI (by omega) (by decide)
        refine bX10_adopt_20 (fun q => ?_) (fun _ => bX10_adopt_28 hv hv hv hv ?_)
        · rw [s4 3155 (by decide), b1', nI_leI (by omega) (by omega)] at q; omega
        · have k1 : I4 3968 j = I1 2624 j := by rw [s4 3968 (by decide)]; exact (b2 j (by omega)).1
          have k2 : (x_up I4 3520 j (I1 2624 j)) 4032 j = I1 2688 j := by rw [x_up_ne (by decide), s4 4032 (by decide)]; exact (b2 j (by omega)).2
          rw [nI_clamp (by omega), k1, k2, nI_1]
          refine ih (j + 1) _ (by omega) ((s4.up (by decide)).up (by decide)) (by rw [x_up_ne (by decide), x_up_ne (by decide)]; exact d1) (fun i hi => ?_)
          rw [x_up_ne (by decide), x_up_app (q := 3584)]
          by_cases hij : i = j
          · subst hij; rw [x_up_at, if_pos ⟨rfl, rfl⟩]; exact ⟨rfl, rfl⟩
          · rw [x_up_off hij, if_neg (fun q => hij q.2), x_up_ne (by decide)]; exact d2 i (by omega)
    exact loop T 0 _ (by omega) (Sm.rf.up (by decide)) x_up_at (fun i hi => by omega)
theorem c_rhas {o rl ra N m : Nat} {x : Int32} {I : Nat → Nat → Int32} {L : Nat → Int64} {Q : Option Value → (Nat → Nat → Int32) → (Nat → Int64) → Prop} (h : kR o rl ra N) (hm : I rl 0 = nI m) (hmN : m ≤ N) (K1 : (∃ p, p < m ∧ I ra p = x) → Q (some (.int 1)) I L) (K0 : (∀ p, p < m → I ra p ≠ x) → Q (some (.int 0)) I L) : XS mX6_has 0 [(0, .ref o), (1, .int x)] [] I L Q := by
  obtain ⟨a, A, b, c, d, e, f, g⟩ := id h
  have hm' : I (64 * o + 1) 0 = nI m := by rw [e]; exact hm
  have key : ∀ k j, j + k = m → (∀ p, p < j → I ra p ≠ x) → XS mX6_has 2 [(0, .ref o), (1, .int x), (2, .int (nI j))] [] I L Q := by
    intro k
    induction k with
    | zero =>
      intro j hj hp
      refine bX6_has_2 a (fun _ => bX6_has_28 (K0 (fun p hp' => hp p (by omega)))) (fun q => ?_)
      rw [hm'] at q
      exact absurd ((nI_leI (by omega) (by omega)).mpr (by omega)) q
    | succ k ih =>
      intro j hj hp
      refine bX6_has_2 a (fun q => ?_) (fun _ => bX6_has_10 a b c (vp_in_nI (by omega) g) (fun q => bX6_has_22 ?_) (fun q => bX6_has_20 (K1 ⟨j, by omega, ?_⟩)))
      · rw [hm', nI_leI (by omega) (by omega)] at q; omega
      · rw [nI_clamp (by omega), d] at q
        rw [nI_1]
        refine ih (j + 1) (by omega) (fun p hp' => ?_)
        by_cases hpj : p = j
        · subst hpj; exact q
        · exact hp p (by omega)
      · rw [nI_clamp (by omega), d] at q; exact q
  exact bX6_has_0 (key m 0 (by omega) (fun p hp => by omega))
theorem o_trace {k : Nat} {x : Int32} {I : Nat → Nat → Int32} {L : Nat → Int64} (h : Rel k I) : Op k mX9_trace mX10_trace [(1, .int x)] I L := by
  have h' := h
  obtain ⟨σ, h1, ⟨h2, h3⟩, hTx, hLi, ⟨m, W, hm8, t1, t2, t3⟩, h6, h7, h8⟩ := h
  have h1' := h1
  have h23 := And.intro h2 h3
  obtain ⟨n, ln, lo, hi, c0, c1, U, seen⟩ := σ
  obtain ⟨hN, hc0, hc1, -, -, hU, hS⟩ := g_okS_eN h1
  obtain ⟨g1, g2, g3, g4, g5⟩ := h2
  obtain ⟨m1, m2, m3, m4, m5⟩ := h3
  have hn8 := hN.2.1
  have hln := hN.2.2.1
  have t1' : I 1857 0 = nI m := t1
  refine bX9_trace_0 (c_hasNode g1 ?_)
  cases hx : g_is n x with
  | false =>
    refine bX9_trace_8 (fun q => absurd rfl q) (fun _ => bX9_trace_11 ⟨_, rfl, bX10_trace_0 (s_isNode m1 (by omega) ?_)⟩)
    rw [hx]
    exact bX10_trace_5 (fun q => absurd rfl q) (fun _ => bX10_trace_8 ⟨rfl, h'.up⟩)
  | true =>
    obtain ⟨a, ha, rfl⟩ := (g_is_iff (by omega)).mp hx
    have ref : ∀ I1 (L1 : Nat → Int64) (Q : Option Value → (Nat → Nat → Int32) → (Nat → Int64) → Prop), Sm [1857, 1920] I I1 → ((∃ p, p < m ∧ W p = a) → Q (some (.int (-4))) I1 L1) → ((∀ p, p < m → W p ≠ a) → 0 < m → g_lk ln lo hi (W (m - 1)) a = none → Q (some (.int (-4))) I1 L1) → ((∀ p, p < m → W p ≠ a) → (0 < m → g_lk ln lo hi (W (m - 1)) a ≠ none) → XS mX10_trace 70 [(0, .ref 49), (1, .int (nI a))] [] I1 L1 Q) → XS mX10_trace 0 [(0, .ref 49), (1, .int (nI a))] [] I1 L1 Q := by
      intro I1 L1 Q s1 Kh Kn Kg
      have m1' : mG I1 n ln lo hi := m1.sm s1 (by decide) (by decide) (by decide) (by decide)
      have e1 : I1 3147 0 = nI m := by rw [s1 3147 (by decide)]; exact t2
      have e2 : ∀ p, p < m → I1 3648 p = nI (W p) := fun p hp => by rw [s1 3648 (by decide)]; exact (t3 p hp).2.2
      refine bX10_trace_0 (s_isNode m1' (by omega) ?_)
      rw [hx]
      refine bX10_trace_5 (fun _ => bX10_trace_11 ?_) (fun q => absurd q (by decide))
      have loop : ∀ d j, j + d = m → (∀ p, p < j → W p ≠ a) → XS mX10_trace 13 [(0, .ref 49), (1, .int (nI a)), (2, .int (nI j))] [] I1 L1 Q := by
        intro d
        induction d with
        | zero =>
          intro j hj hp
          have e : j = m := by omega
          subst e
          refine bX10_trace_13 (fun _ => bX10_trace_40 (fun q => Kg hp (fun z => ?_)) (fun q => ?_)) (fun q => ?_)
          · rw [e1] at q
            have := (i_le j 0 rfl rfl (by omega) (by decide)).mp q; omega
          · rw [e1] at q
            have hj0 : 0 < j := by
              apply Classical.byContradiction
              intro z
              exact q ((i_le j 0 rfl rfl (by omega) (by decide)).mpr (by omega))
            have e3 : I1 3147 0 - (1 : Int32) = nI (j - 1) := by rw [e1]; exact i_sub (a := j) (b := 1) (by omega)
            have hw := (t3 (j - 1) (by omega)).1
            have hw' : W (j - 1) < n := hw
            refine bX10_trace_47 (by rw [e3]; exact vp_in_nI (by omega) (by decide)) ?_
            rw [e3, nI_clamp (by omega), e2 (j - 1) (by omega)]
            refine s_linkOf m1' hN (by omega) (by omega) ?_
            cases hlk : g_lk ln lo hi (W (j - 1)) a with
            | none => exact bX10_trace_63 (fun q2 => absurd rfl q2) (fun _ => bX10_trace_67 (Kn hp hj0 hlk))
            | some l =>
              have := (g_lk_lt hN hlk).1
              exact bX10_trace_63 (fun _ => Kg hp (fun _ => by rw [hlk]; intro z; cases z)) (fun q2 => absurd q2 (i_m1ne (by omega)))
          · rw [e1] at q
            exact absurd ((nI_leI (by omega) (by omega)).mpr (Nat.le_refl _)) q
        | succ d ih =>
          intro j hj hp
          have hw := (t3 j (by omega)).1
          have hw' : W j < n := hw
          refine bX10_trace_13 (fun q => ?_) (fun _ => bX10_trace_21 (vp_in_nI (by omega) (by decide)) (fun q => bX10_trace_34 ?_) (fun q => bX10_trace_31 (Kh ⟨j, by omega, ?_⟩)))
          · rw [e1, nI_leI (by omega) (by omega)] at q; omega
          · rw [nI_clamp (by omega), e2 j (by omega), nI_eq (by omega) (by omega)] at q
            rw [nI_1]
            refine ih (j + 1) (by omega) (fun p hp' => ?_)
            by_cases hpj : p = j
            · subst hpj; exact q
            · exact hp p (by omega)
          · rw [nI_clamp (by omega), e2 j (by omega), nI_eq (by omega) (by omega)] at q; exact q
      exact loop m 0 (by omega) (fun p hp => by omega)
    have hWa : ∀ p, p < m → (I 1920 p = nI a ↔ W p = a) := fun p hp => by
      have hw' : W p < n := (t3 p hp).1
      rw [(t3 p hp).2.1, nI_eq (by omega) (by omega)]
    refine bX9_trace_8 (fun _ => bX9_trace_14 (c_rlast k_traced t1 hm8 (bX9_trace_21 (c_rhas k_traced t1 hm8 (fun hh => ?_) (fun hh => ?_))))) (fun q => absurd q (by decide))
    · obtain ⟨p, hp, e⟩ := hh
      have e' := (hWa p hp).mp e
      refine bX9_trace_30 (fun _ => bX9_trace_51 ⟨_, rfl, ref I L _ Sm.rf (fun _ => ⟨rfl, h'.up⟩) (fun z _ _ => absurd e' (z p hp)) (fun z _ => absurd e' (z p hp))⟩) (fun q => absurd q (by decide))
    · have hno : ∀ p, p < m → W p ≠ a := fun p hp z => hh p hp ((hWa p hp).mpr z)
      have put : (0 < m → g_lk ln lo hi (W (m - 1)) a ≠ none) → XS mX9_trace 54 [(0, .ref 0), (1, .int (nI a))] [] I L (fun r I1 L1 => ∃ v, r = some (.int v) ∧ XS mX10_trace 0 [(0, .ref 49), (1, .int (nI a))] [] I1 L1 (fun r2 I2 _ => r2 = some (.int v) ∧ Rel (k + 1) I2)) := by
        intro hlk
        refine bX9_trace_54 (fun q => ?_) (fun q => ?_)
        · rw [t1'] at q
          have hlt := (i_lt m 8 rfl rfl (by omega) (by decide)).mp q
          refine bX9_trace_69 (c_rput' k_traced t1 hlt (bX9_trace_77 ⟨_, rfl, ?_⟩))
          have s1 : Sm [1857, 1920] I (x_up (x_up I 1920 m (nI a)) 1857 0 (nI (m + 1))) := (Sm.rf.up (by decide)).up (by decide)
          have a1 : ∀ p, (x_up (x_up I 1920 m (nI a)) 1857 0 (nI (m + 1))) 1920 p = if p = m then nI a else I 1920 p := fun p => by
            rw [x_up_ne (by decide), x_up_app]; simp
          have a2 : (x_up (x_up I 1920 m (nI a)) 1857 0 (nI (m + 1))) 1857 0 = nI (m + 1) := x_up_at
          generalize (x_up (x_up I 1920 m (nI a)) 1857 0 (nI (m + 1))) = I1 at s1 a1 a2 ⊢
          rw [a2]
          have e1 : I1 3147 0 = nI m := by rw [s1 3147 (by decide)]; exact t2
          refine ref I1 L _ s1 (fun z => by obtain ⟨p, hp, e⟩ := z; exact absurd e (hno p hp)) (fun _ z1 z2 => absurd z2 (hlk z1)) (fun _ _ => bX10_trace_70 (fun _ => bX10_trace_82 (by rw [e1]; exact vp_in_nI hlt (by decide)) ?_) (fun z => ?_))
          · have e2 : (x_up I1 3648 m (nI a)) 3147 0 + (1 : Int32) = nI (m + 1) := by rw [x_up_ne (by decide), e1, nI_1]
            rw [e1, nI_clamp (by omega), e2, x_up_at]
            have s2 : Sm [3147, 3648] I1 (x_up (x_up I1 3648 m (nI a)) 3147 0 (nI (m + 1))) := (Sm.rf.up (by decide)).up (by decide)
            have b1 : ∀ p, (x_up (x_up I1 3648 m (nI a)) 3147 0 (nI (m + 1))) 3648 p = if p = m then nI a else I1 3648 p := fun p => by
              rw [x_up_ne (by decide), x_up_app]; simp
            have b2 : (x_up (x_up I1 3648 m (nI a)) 3147 0 (nI (m + 1))) 3147 0 = nI (m + 1) := x_up_at
            generalize (x_up (x_up I1 3648 m (nI a)) 3147 0 (nI (m + 1))) = I2 at s2 b1 b2 ⊢
            have s : Sm [1857, 1920, 3147, 3648] I I2 := (s1.mono (by decide)).tr (s2.mono (by decide))
            refine ⟨rfl, (n, ln, lo, hi, c0, c1, U, seen), h1', rNe_ag h23 (s.ag (by decide)), hTx.ag (s.ag (by decide)), hLi.ag (s.ag (by decide)), ⟨m + 1, fun p => if p = m then a else W p, by omega, ?_, b2, fun p hp => ?_⟩, h6.ag (s.ag (by decide)), h7.ag (s.ag (by decide)), h8.ag (s.ag (by decide)) (by omega)⟩
            · rw [s2 _ (by decide)]; exact a2
            · rw [s2 1920 (by decide), show I1 1920 p = _ from a1 p, show I2 3648 p = _ from b1 p, s1 3648 (by decide)]
              dsimp only
              by_cases hpm : p = m
              · rw [if_pos hpm, if_pos hpm, if_pos hpm]; exact ⟨ha, rfl, rfl⟩
              · rw [if_neg hpm, if_neg hpm, if_neg hpm]; exact t3 p (by omega)
          · rw [e1] at z
            have := (i_eq m 8 rfl rfl (by omega) (by decide)).mp z; omega
        · rw [t1'] at q
          have hge : ¬ m < 8 := fun w => q ((i_lt m 8 rfl rfl (by omega) (by decide)).mpr w)
          refine bX9_trace_66 ⟨_, rfl, ref I L _ Sm.rf (fun z => by obtain ⟨p, hp, e⟩ := z; exact absurd e (hno p hp)) (fun _ z1 z2 => absurd z2 (hlk z1)) (fun _ _ => bX10_trace_70 (fun z => ?_) (fun _ => bX10_trace_79 ⟨rfl, h'.up⟩))⟩
          exfalso
          rw [show I 3147 0 = nI m from t2] at z
          exact z ((i_eq m 8 rfl rfl (by omega) (by decide)).mpr (by omega))
      refine bX9_trace_30 (fun q => absurd rfl q) (fun _ => ?_)
      by_cases hm0 : m = 0
      · rw [if_pos hm0]
        exact bX9_trace_33 (fun _ => put (fun z => by omega)) (fun q => absurd rfl q)
      · rw [if_neg hm0]
        have hw' : W (m - 1) < n := (t3 (m - 1) (by omega)).1
        rw [(t3 (m - 1) (by omega)).2.1]
        refine bX9_trace_33 (fun q => absurd q (i_m1ne (by omega))) (fun _ => bX9_trace_38 (c_linkBetween g1 hN (by omega) (by omega) ?_))
        cases hlk : g_lk ln lo hi (W (m - 1)) a with
        | none => exact bX9_trace_47 (fun q => absurd rfl q) (fun _ => bX9_trace_51 ⟨_, rfl, ref I L _ Sm.rf (fun _ => ⟨rfl, h'.up⟩) (fun _ _ _ => ⟨rfl, h'.up⟩) (fun _ z => absurd hlk (z (by omega)))⟩)
        | some l =>
          have := (g_lk_lt hN hlk).1
          exact bX9_trace_47 (fun _ => put (fun _ => by rw [hlk]; intro z; cases z)) (fun q => absurd q (i_m1ne (by omega)))
