/-! ===== the reference: the lowest kinds between all places ===== -/
theorem s_laysBy {n ln S a N m : Nat} {d1 : Bool} {lo hi c0 c1 W : Nat → Nat} {I : Nat → Nat → Int32} {L : Nat → Int64} {Q : Option Value → (Nat → Nat → Int32) → (Nat → Int64) → Prop} (hm8 : m ≤ 8) (hm0 : 0 < m) (hmN : m ≤ N) (hN2 : N < 2 ^ 30) (ha : x_SH[a]? = some (1, N)) (ha1 : 64 * a ≠ 3840) (ha2 : 64 * a ≠ 3712)
    (hG : mG I n ln lo hi) (hN : g_net n ln lo hi) (hC0 : mC I ln 0 c0) (hC1 : mC I ln 1 c1) (hc0 : g_cs ln c0) (hc1 : g_cs ln c1) (hS : S < 2 ^ 31) (hW : ∀ p, p < m → I (64 * a) p = nI (W p) ∧ W p < n)
    (K : ∀ I', Sm [3712, 3840] I I' → mB I' (fun i j => if i < j ∧ j < m then g_by (g_nxt (g_e ln lo hi c0 S) n) (g_nxt (g_e ln lo hi c1 S) n) d1 ln lo hi S W i j else none) → Q none I' L) :
    XS mX10_laysBy 0 [(0, .ref 49), (1, .ref a), (2, .int (nI m)), (3, .int (nI S)), (4, .int (nI (if d1 = true then 7 else 5)))] [] I L Q := by
  have hln := hN.2.2.1
  have hn8 := hN.2.1
  obtain ⟨kk, hkk⟩ : ∃ kk, kk = (if d1 = true then 7 else 5) := ⟨_, rfl⟩
  have hkk8 : kk < 8 := by rw [hkk]; cases d1 <;> simp
  have hb0 : kk.testBit 0 = true := by rw [hkk]; cases d1 <;> decide
  have hb2 : kk.testBit 2 = true := by rw [hkk]; cases d1 <;> decide
  have hb1 : kk.testBit 1 = d1 := by rw [hkk]; cases d1 <;> decide
  rw [← hkk]
  have kG : ∀ {I'}, Sm [3712, 3840] I I' → mG I' n ln lo hi := fun hs => hG.sm hs (by decide) (by decide) (by decide) (by decide)
  have kC0 : ∀ {I'}, Sm [3712, 3840] I I' → mC I' ln 0 c0 := fun hs l hl => by rw [hs 3392 (by decide)]; exact hC0 l hl
  have kC1 : ∀ {I'}, Sm [3712, 3840] I I' → mC I' ln 1 c1 := fun hs l hl => by rw [hs 3392 (by decide)]; exact hC1 l hl
  have kW : ∀ {I'}, Sm [3712, 3840] I I' → ∀ p, p < m → I' (64 * a) p = nI (W p) ∧ W p < n := fun hs p hp => by
    rw [hs (64 * a) (by simp; exact ⟨ha2, ha1⟩)]; exact hW p hp
  -- a kind below 2: by leads
  have lower : ∀ (kind : Nat) (c : Nat → Nat), kind < 2 → (∀ {I'}, Sm [3712, 3840] I I' → mC I' ln kind c) → g_cs ln c → kk.testBit kind = true → ∀ I1 B, Sm [3712, 3840] I I1 → mB I1 B →
      (∀ I', Sm [3712, 3840] I I' → mB I' (fun i j => if i < j ∧ j < m ∧ g_p (g_ld (g_nxt (g_e ln lo hi c S) n) W i j) = true then some kind else B i j) → XS mX10_laysBy 190 [(0, .ref 49), (1, .ref a), (2, .int (nI m)), (3, .int (nI S)), (4, .int (nI kk)), (5, .int (nI kind))] [] I' L Q) →
      XS mX10_laysBy 38 [(0, .ref 49), (1, .ref a), (2, .int (nI m)), (3, .int (nI S)), (4, .int (nI kk)), (5, .int (nI kind))] [] I1 L Q := by
    intro kind c hk hC hc hbit I1 B s1 hB KK
    refine bX10_laysBy_38 (s_lays (kG s1) hN (hC s1) hc hk hS (fun I2 s2 hF => ?_))
    have s2' : Sm [3712, 3840] I I2 := s1.tr (s2.mono (by simp))
    refine s_byKind hm8 hmN hN2 ha (kG s2') hN hkk8 (by omega) hbit (kW s2') ha1 ha2 (fun i j => g_p (g_ld (g_nxt (g_e ln lo hi c S) n) W i j)) (fun I' i j lv hs hf hij hjm _ k => ?_) B (fun i j hi hj => by rw [s2 _ (by decide)]; exact hB i j hi hj) (fun I' hs hf hB' => KK I' (s2'.tr hs) hB')
    refine bX10_laysBy_88 (fun _ => bX10_laysBy_128 ?_) (fun h => ?_)
    · exact s_leads (kG (s2'.tr hs)) hN (hC (s2'.tr hs)) hc hk hS (fun u w hu hw => by rw [hf]; exact hF u w hu hw) ha hmN hN2 (kW (s2'.tr hs)) hij hjm k
    · have := (i_eq kind 2 rfl rfl (by omega) (by omega)).mp h
      omega
  have fin : ∀ I' B1, Sm [3712, 3840] I I' → mB I' B1 → (∀ i j, i < 8 → j < 8 → B1 i j = if i < j ∧ j < m then g_by1 (g_nxt (g_e ln lo hi c1 S) n) d1 ln lo hi S W i j else none) →
      XS mX10_laysBy 190 [(0, .ref 49), (1, .ref a), (2, .int (nI m)), (3, .int (nI S)), (4, .int (nI kk)), (5, .int (nI 1))] [] I' L Q := by
    intro I' B1 hs hB hB1
    refine bX10_laysBy_190 (bX10_laysBy_27 (fun h => absurd h (by decide)) (fun _ => bX10_laysBy_32 (fun h => absurd h (by decide)) (fun _ => ?_)))
    refine lower 0 c0 (by omega) kC0 hc0 hb0 I' B1 hs hB (fun I2 hs2 hB2 => bX10_laysBy_190 (bX10_laysBy_27 (fun _ => bX10_laysBy_196 (K I2 hs2 (fun i j hi8 hj8 => ?_))) (fun h => absurd (by decide) h)))
    rw [hB2 i j hi8 hj8]
    congr 1
    dsimp only
    rw [hB1 i j hi8 hj8]
    by_cases hij : i < j ∧ j < m
    · rw [if_pos hij, if_pos hij]
      unfold g_by
      by_cases hp : g_p (g_ld (g_nxt (g_e ln lo hi c0 S) n) W i j) = true
      · rw [if_pos ⟨hij.1, hij.2, hp⟩, if_pos hp]
      · rw [if_neg (fun q => hp q.2.2), if_neg hp]
    · rw [if_neg hij, if_neg hij, if_neg (fun q => hij ⟨q.1, q.2.1⟩)]
  have first : ∀ d k, k + d = 64 → ∀ I', Sm [3712, 3840] I I' → (∀ q, q < k → I' 3840 q = -1) → XS mX10_laysBy 3 [(0, .ref 49), (1, .ref a), (2, .int (nI m)), (3, .int (nI S)), (4, .int (nI kk)), (5, .int (nI k))] [] I' L Q := by
    intro d
    induction d with
    | zero =>
      intro k hk I' hs hq
      refine bX10_laysBy_3 (fun _ => bX10_laysBy_24 (bX10_laysBy_27 (fun h => absurd h (by decide)) (fun _ => bX10_laysBy_32 (fun _ => ?_) (fun h => absurd (by decide) h)))) (fun h => ?_)
      · refine s_byKind (kind := 2) hm8 hmN hN2 ha (kG hs) hN hkk8 (by omega) hb2 (kW hs) ha1 ha2 (fun i j => g_p (g_l2 ln lo hi S W i j)) (fun I2 i j lv hs2 hf hij hjm hlv k2 => ?_) (fun _ _ => none) (fun i j hi hj => hq (8 * i + j) (by omega)) (fun I2 hs2 hf hB2 => ?_)
        · refine bX10_laysBy_88 (fun h => absurd rfl h) (fun _ => bX10_laysBy_96 (fun h => bX10_laysBy_124 ?_) (fun h => bX10_laysBy_105 (fun h2 => bX10_laysBy_124 ?_) (fun h2 => bX10_laysBy_111 ?_)))
          · rw [nI_1, nI_eq (by omega) (by omega)] at h
            have : g_p (g_l2 ln lo hi S W i j) = false := g_p_f.mpr (fun q => h q.1)
            rw [this] at k2; exact k2
          · have : g_p (g_l2 ln lo hi S W i j) = false := g_p_f.mpr (fun q => by
              obtain ⟨_, l, h3, _⟩ := q
              rw [hlv, h3] at h2
              exact i_m1ne (by have := (g_lk_lt hN h3).1; omega) h2)
            rw [this] at k2; exact k2
          · cases hl : g_lk ln lo hi (W i) (W j) with
            | none => rw [hlv, hl] at h2; exact absurd rfl h2
            | some l =>
              have hll := (g_lk_lt hN hl).1
              rw [hlv, hl]
              refine s_has hS (by omega) (bX10_laysBy_117 (fun h3 => bX10_laysBy_124 ?_) (fun h3 => bX10_laysBy_120 ?_))
              · rw [i_b0] at h3
                have : g_p (g_l2 ln lo hi S W i j) = false := g_p_f.mpr (fun q => by
                  obtain ⟨_, l', h4, h5⟩ := q
                  rw [hl] at h4; cases h4
                  rw [h3] at h5; cases h5)
                rw [this] at k2; exact k2
              · rw [i_b0] at h3
                rw [nI_1, nI_eq (by omega) (by omega)] at h
                have : g_p (g_l2 ln lo hi S W i j) = true := g_p_iff.mpr ⟨h, l, hl, by simpa using h3⟩
                rw [this] at k2; exact k2
        · have s3 := hs.tr hs2
          refine bX10_laysBy_190 (bX10_laysBy_27 (fun h => absurd h (by decide)) (fun _ => bX10_laysBy_32 (fun h => absurd h (by decide)) (fun _ => ?_)))
          have b2 : ∀ i j, (if i < j ∧ j < m ∧ g_p (g_l2 ln lo hi S W i j) = true then some 2 else none) = (if i < j ∧ j < m then g_by2 ln lo hi S W i j else none) := fun i j => by
            by_cases hij : i < j ∧ j < m
            · rw [if_pos hij]
              unfold g_by2
              by_cases hp : g_p (g_l2 ln lo hi S W i j) = true
              · rw [if_pos ⟨hij.1, hij.2, hp⟩, if_pos hp]
              · rw [if_neg (fun q => hp q.2.2), if_neg hp]
            · rw [if_neg hij, if_neg (fun q => hij ⟨q.1, q.2.1⟩)]
          cases hd : d1 with
          | true =>
            rw [hd] at hb1
            refine lower 1 c1 (by omega) kC1 hc1 hb1 I2 _ s3 hB2 (fun I4 s4 hB4 => fin I4 _ s4 hB4 (fun i j hi8 hj8 => ?_))
            rw [b2]
            by_cases hij : i < j ∧ j < m
            · rw [if_pos hij, if_pos hij]
              unfold g_by1
              rw [hd]
              by_cases hp : g_p (g_ld (g_nxt (g_e ln lo hi c1 S) n) W i j) = true
              · rw [if_pos ⟨hij.1, hij.2, hp⟩, if_pos (by rw [hp]; rfl)]
              · rw [if_neg (fun q => hp q.2.2), if_neg (by simpa using hp)]
            · rw [if_neg hij, if_neg hij, if_neg (fun q => hij ⟨q.1, q.2.1⟩)]
          | false =>
            rw [hd] at hb1
            refine bX10_laysBy_38 (s_lays (kind := 1) (kG s3) hN (kC1 s3) hc1 (by omega) hS (fun I4 s4 _ => bX10_laysBy_45 (bX10_laysBy_48 (fun h => ?_) (fun _ => bX10_laysBy_54 (s_has (l := 1) (by omega) (by omega) (bX10_laysBy_61 (fun _ => ?_) (fun h => ?_)))))))
            · have := (i_le m 0 rfl rfl (by omega) (by omega)).mp h
              omega
            · refine fin I4 _ (s3.tr (s4.mono (by simp))) (fun i j hi8 hj8 => by rw [s4 _ (by decide)]; exact hB2 i j hi8 hj8) (fun i j hi8 hj8 => ?_)
              rw [b2]
              unfold g_by1
              rw [hd]
              simp
            · rw [hb1] at h
              exact absurd rfl h
      · exact absurd ((i_le 64 k rfl rfl (by omega) (by omega)).mpr (by omega)) h
    | succ d ih =>
      intro k hk I' hs hq
      refine bX10_laysBy_3 (fun h => ?_) (fun _ => bX10_laysBy_10 (vp_in_nI (by omega) (by decide)) ?_)
      · have := (i_le 64 k rfl rfl (by omega) (by omega)).mp h
        omega
      · rw [nI_1, nI_clamp (by omega)]
        refine ih (k + 1) (by omega) _ (hs.up (by simp)) (fun q hq' => ?_)
        by_cases hqk : q = k
        · subst hqk; rw [x_up_at]
        · rw [x_up_off hqk]; exact hq q (by omega)
  exact bX10_laysBy_0 (first 64 0 rfl I Sm.rf (fun q hq => by omega))
