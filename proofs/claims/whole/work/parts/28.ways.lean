/-! ===== ways by the node next ===== -/
/-- W 0 .. W m is the walk from u to w -/
def g_way (f : Nat → Option Nat) (u w m : Nat) (W : Nat → Nat) : Prop := W 0 = u ∧ W m = w ∧ ∀ j, j < m → f (W j) = some (W (j + 1))
theorem g_way_ex {e : Nat → Nat → Option Nat} {n : Nat} (he : g_ok e n) {w : Nat} : ∀ (r u : Nat), u < n → g_rk e n u w = r → g_rch e u w → ∃ m W, m ≤ r ∧ g_way (fun x => g_nxt e n x w) u w m W ∧ ∀ j, j ≤ m → W j < n := by
  intro r
  induction r using Nat.strongRecOn with
  | ind r ih =>
    intro u hu hr hw
    by_cases huw : u = w
    · subst huw
      exact ⟨0, fun _ => u, Nat.zero_le _, ⟨rfl, rfl, fun j hj => by omega⟩, fun _ _ => hu⟩
    · cases hn : g_nxt e n u w with
      | none => exact absurd hw ((g_nxt_none he huw).mp hn)
      | some v =>
        have h1 := g_nxt_some he hn
        have h2 := g_nxt_rk he hn
        obtain ⟨m, W, hm, ⟨a, b, c⟩, d⟩ := ih (g_rk e n v w) (by omega) v h1.1 rfl h1.2.1
        refine ⟨m + 1, fun j => if j = 0 then u else W (j - 1), by omega, ⟨by simp, by simp [b], fun j hj => ?_⟩, fun j hj => ?_⟩
        · by_cases hj0 : j = 0
          · subst hj0; simp [hn, a]
          · have := c (j - 1) (by omega)
            simp only [if_neg hj0, if_neg (show ¬ j + 1 = 0 by omega)]
            rw [show j + 1 - 1 = j - 1 + 1 by omega]
            exact this
        · by_cases hj0 : j = 0
          · subst hj0; simp [hu]
          · simp only [if_neg hj0]; exact d (j - 1) (by omega)
theorem g_way_ex' {e : Nat → Nat → Option Nat} {n u w : Nat} (he : g_ok e n) (hu : u < n) (h : g_rch e u w) : ∃ m W, m < n ∧ g_way (fun x => g_nxt e n x w) u w m W ∧ ∀ j, j ≤ m → W j < n := by
  obtain ⟨m, W, h1, h2, h3⟩ := g_way_ex he _ u hu rfl h
  have := g_rk_le (e := e) (w := w) hu
  exact ⟨m, W, by omega, h2, h3⟩
theorem g_way_pre {f : Nat → Option Nat} {u w m m' : Nat} {W W' : Nat → Nat} (h : g_way f u w m W) (h' : g_way f u w m' W') : ∀ j, j ≤ m → j ≤ m' → W j = W' j := by
  intro j
  induction j with
  | zero => intro _ _; rw [h.1, h'.1]
  | succ j ih =>
    intro a b
    have e1 := h.2.2 j (by omega)
    have e2 := h'.2.2 j (by omega)
    rw [ih (by omega) (by omega), e2] at e1
    exact (Option.some.inj e1).symm
theorem g_way_len {f : Nat → Option Nat} {u w m m' : Nat} {W W' : Nat → Nat} (hw : f w = none) (h : g_way f u w m W) (h' : g_way f u w m' W') : m = m' := by
  rcases Nat.lt_trichotomy m m' with hlt | heq | hlt
  · have e1 := g_way_pre h h' m (Nat.le_refl _) (by omega)
    have e2 := h'.2.2 m hlt
    rw [← e1, h.2.1, hw] at e2
    cases e2
  · exact heq
  · have e1 := g_way_pre h h' m' (by omega) (Nat.le_refl _)
    have e2 := h.2.2 m' hlt
    rw [e1, h'.2.1, hw] at e2
    cases e2
theorem g_way_ne {f : Nat → Option Nat} {u w m : Nat} {W : Nat → Nat} (hw : f w = none) (h : g_way f u w m W) {j : Nat} (hj : j < m) : W j ≠ w := by
  intro e
  have := h.2.2 j hj
  rw [e, hw] at this
  cases this
/-- what walks() leaves -/
def mW (I : Nat → Nat → Int32) (m : Nat) (W : Nat → Nat) : Prop := I 3151 0 = nI (m + 1) ∧ ∀ j, j ≤ m → I 3776 j = nI (W j)
theorem s_walks {n ln S u w : Nat} {lo hi c : Nat → Nat} {I : Nat → Nat → Int32} {L : Nat → Int64} {Q : Option Value → (Nat → Nat → Int32) → (Nat → Int64) → Prop} (hG : mG I n ln lo hi) (hN : g_net n ln lo hi) (hC : mC I ln 0 c) (hc : g_cs ln c) (hS : S < 2 ^ 31) (hu : u < n) (hw : w < n)
    (K1 : ∀ I' m W, Sm [3712, 3151, 3776] I I' → m < n → g_way (fun x => g_nxt (g_e ln lo hi c S) n x w) u w m W → (∀ j, j ≤ m → W j < n) → mW I' m W → Q (some (.int 1)) I' L)
    (K0 : ∀ I', Sm [3712, 3151, 3776] I I' → ¬ g_rch (g_e ln lo hi c S) u w → Q (some (.int 0)) I' L) : XS mX10_walks 0 [(0, .ref 49), (1, .int (nI u)), (2, .int (nI w)), (3, .int (nI 0)), (4, .int (nI S))] [] I L Q := by
  have he := g_e_ok hN hc S
  have hn8 := hN.2.1
  have hwn := g_nxt_self he w
  refine bX10_walks_0 (s_lays hG hN hC hc (by omega) hS (fun I1 s1 hF => bX10_walks_7 ?_))
  have keepG : ∀ {I'}, Sm [3712, 3151, 3776] I I' → mG I' n ln lo hi := fun hs => hG.sm hs (by decide) (by decide) (by decide) (by decide)
  have keepC : ∀ {I'}, Sm [3712, 3151, 3776] I I' → mC I' ln 0 c := fun hs l hl => by rw [hs 3392 (by decide)]; exact hC l hl
  have s1' : Sm [3712, 3151, 3776] I I1 := s1.mono (by simp)
  by_cases hr : g_rch (g_e ln lo hi c S) u w
  · obtain ⟨m, W, hm, hway, hWn⟩ := g_way_ex' he hu hr
    have key : ∀ k j, j + k = m → ∀ I', Sm [3712, 3151, 3776] I I' → mFar I' (g_e ln lo hi c S) n → I' 3151 0 = nI (j + 1) → (∀ i, i ≤ j → I' 3776 i = nI (W i)) → XS mX10_walks 22 [(0, .ref 49), (2, .int (nI w)), (3, .int (nI 0)), (4, .int (nI S)), (5, .int (nI (W j)))] [] I' L Q := by
      intro k
      induction k with
      | zero =>
        intro j hj I' hs hF' h1 h2
        have hjm : j = m := by omega
        subst hjm
        refine bX10_walks_22 (fun _ => bX10_walks_76 (fun h => ?_) (fun _ => bX10_walks_82 (bX10_walks_87 (Or.inr rfl) (K1 I' j W hs hm hway hWn ⟨h1, h2⟩)))) (fun h => ?_)
        · exact absurd (by rw [hway.2.1]) h
        · exact absurd (by rw [hway.2.1]) h
      | succ k ih =>
        intro j hj I' hs hF' h1 h2
        have hWj := hWn j (by omega)
        have hWj1 := hWn (j + 1) (by omega)
        refine bX10_walks_22 (fun h => ?_) (fun _ => bX10_walks_28 (fun h => absurd h (i_m1ne (by omega))) (fun _ => bX10_walks_34 (s_nextOf (keepG hs) hN (keepC hs) hc (by omega) hS hF' hWj hw ?_)))
        · rw [nI_eq (by omega) (by omega)] at h
          exact absurd h (g_way_ne (f := fun x => g_nxt (g_e ln lo hi c S) n x w) hwn hway (by omega))
        · have hq := hway.2.2 j (by omega)
          dsimp only at hq
          rw [hq]
          have hvp : vp_in (I' 3151 0) 8 := i_vp _ h1 (by omega) (by decide)
          refine bX10_walks_44 (fun h => absurd h (i_m1ne (by omega))) (fun _ => bX10_walks_52 hvp ?_)
          rw [h1, nI_clamp (by omega), x_up_ne (by decide), h1, nI_1]
          have hs2 : Sm [3712, 3151, 3776] I (x_up (x_up I' 3776 (j + 1) (nI (W (j + 1)))) 3151 0 (nI (j + 1 + 1))) := (hs.up (by simp)).up (by simp)
          refine ih (j + 1) (by omega) _ hs2 (fun a b ha hb => ?_) (by rw [x_up_at]) (fun i hi => ?_)
          · rw [x_up_ne (by decide), x_up_ne (by decide)]; exact hF' a b ha hb
          · rw [x_up_ne (by decide)]
            by_cases hij : i = j + 1
            · subst hij; rw [x_up_at]; rfl
            · rw [x_up_off hij]; exact h2 i (by omega)
    have hs2 : Sm [3712, 3151, 3776] I (x_up (x_up I1 3776 0 (nI u)) 3151 0 1) := (s1'.up (by simp)).up (by simp)
    have := key m 0 (by omega) _ hs2 (fun a b ha hb => by rw [x_up_ne (by decide), x_up_ne (by decide)]; exact hF a b ha hb) (by rw [x_up_at]; rfl) (fun i hi => by
      have : i = 0 := by omega
      subst this
      rw [x_up_ne (by decide), x_up_at, hway.1])
    rw [hway.1] at this
    exact this
  · have hne : u ≠ w := by rintro rfl; exact hr (g_rch_self _ _)
    have hs2 : Sm [3712, 3151, 3776] I (x_up (x_up I1 3776 0 (nI u)) 3151 0 1) := (s1'.up (by simp)).up (by simp)
    have hF2 : mFar (x_up (x_up I1 3776 0 (nI u)) 3151 0 1) (g_e ln lo hi c S) n := fun a b ha hb => by rw [x_up_ne (by decide), x_up_ne (by decide)]; exact hF a b ha hb
    refine bX10_walks_22 (fun h => ?_) (fun _ => bX10_walks_28 (fun h => absurd h (i_m1ne (by omega))) (fun _ => bX10_walks_34 (s_nextOf (keepG hs2) hN (keepC hs2) hc (by omega) hS hF2 hu hw ?_)))
    · rw [nI_eq (by omega) (by omega)] at h
      exact absurd h hne
    · rw [(g_nxt_none he hne).mpr hr]
      refine bX10_walks_44 (fun _ => bX10_walks_22 (fun h => absurd h.symm (i_m1ne (by omega))) (fun _ => bX10_walks_28 (fun _ => bX10_walks_76 (fun _ => bX10_walks_86 (bX10_walks_87 (Or.inl rfl) (K0 _ hs2 hr))) (fun h => absurd h.symm (i_m1ne (by omega)))) (fun h => absurd rfl h))) (fun h => absurd rfl h)
/-- does a way go over link l? -/
def g_ov (ln : Nat) (lo hi : Nat → Nat) (m l : Nat) (W : Nat → Nat) : Bool := (g_fst (fun j => g_lk ln lo hi (W j) (W (j + 1)) == some l) m).isSome
theorem g_ov_iff {ln : Nat} {lo hi : Nat → Nat} {m l : Nat} {W : Nat → Nat} : g_ov ln lo hi m l W = true ↔ ∃ j, j < m ∧ g_lk ln lo hi (W j) (W (j + 1)) = some l := by
  unfold g_ov
  cases h : g_fst (fun j => g_lk ln lo hi (W j) (W (j + 1)) == some l) m with
  | none =>
    have h0 := g_fst_none.mp h
    simp only [Option.isSome_none, Bool.false_eq_true, false_iff]
    rintro ⟨j, hj, h1⟩
    have := h0 j hj
    simp [h1] at this
  | some j =>
    have h0 := g_fst_some.mp h
    simp only [Option.isSome_some, true_iff]
    exact ⟨j, h0.1, by simpa using h0.2.1⟩
theorem s_isOver {n ln m l : Nat} {lo hi : Nat → Nat} {W : Nat → Nat} {I : Nat → Nat → Int32} {L : Nat → Int64} {Q : Option Value → (Nat → Nat → Int32) → (Nat → Int64) → Prop} (hG : mG I n ln lo hi) (hN : g_net n ln lo hi) (hW : mW I m W) (hWn : ∀ j, j ≤ m → W j < n) (hm : m < n) (hl : l < ln) (K : Q (some (.int (i_b (g_ov ln lo hi m l W)))) I L) : XS mX10_isOver 0 [(0, .ref 49), (1, .int (nI l))] [] I L Q := by
  have hn8 := hN.2.1
  have hln := hN.2.2.1
  have key : ∀ k j, j + k = m → ∀ b : Bool, (b = true ↔ ∃ i, i < j ∧ g_lk ln lo hi (W i) (W (i + 1)) = some l) → XS mX10_isOver 4 [(0, .ref 49), (1, .int (nI l)), (2, .int (i_b b)), (3, .int (nI (j + 1)))] [] I L Q := by
    intro k
    induction k with
    | zero =>
      intro j hj b hb
      refine bX10_isOver_4 (fun _ => bX10_isOver_50 (i_b01 b) ?_) (fun h => ?_)
      · have : b = g_ov ln lo hi m l W := by
          rw [Bool.eq_iff_iff, hb, g_ov_iff, show j = m by omega]
        rw [this]; exact K
      · rw [hW.1] at h
        exact absurd ((nI_leI (by omega) (by omega)).mpr (by omega)) h
    | succ k ih =>
      intro j hj b hb
      have w1 := hWn j (by omega)
      have w2 := hWn (j + 1) (by omega)
      have nxt : ∀ b' : Bool, (b' = true ↔ ∃ i, i < j + 1 ∧ g_lk ln lo hi (W i) (W (i + 1)) = some l) → XS mX10_isOver 43 [(0, .ref 49), (1, .int (nI l)), (3, .int (nI (j + 1)))] [.int (i_b b')] I L Q := fun b' hb' => by
        refine bX10_isOver_43 ?_
        rw [nI_1]
        exact ih (j + 1) (by omega) b' hb'
      have yes : (∃ i, i < j + 1 ∧ g_lk ln lo hi (W i) (W (i + 1)) = some l) → XS mX10_isOver 38 [(0, .ref 49), (1, .int (nI l)), (3, .int (nI (j + 1)))] [] I L Q := fun q => bX10_isOver_38 (nxt true (by simpa using q))
      have e1 : nI (j + 1) - (1 : Int32) = nI j := nI_pred j
      refine bX10_isOver_4 (fun h => ?_) (fun _ => bX10_isOver_12 (fun h => ?_) (fun h => bX10_isOver_16 (i_vp j e1 (by omega) (by decide)) (vp_in_nI (by omega) (by decide)) ?_))
      · rw [hW.1, nI_leI (by omega) (by omega)] at h; omega
      · rw [i_b0] at h
        have hb1 : b = true := by simpa using h
        obtain ⟨i, h1, h2⟩ := hb.mp hb1
        exact yes ⟨i, by omega, h2⟩
      · rw [i_b0] at h
        rw [e1, nI_clamp (by omega), nI_clamp (by omega), hW.2 j (by omega), hW.2 (j + 1) (by omega)]
        refine s_linkOf hG hN (by omega) (by omega) (bX10_isOver_34 (fun h2 => bX10_isOver_42 (nxt false ?_)) (fun h2 => yes ?_))
        · simp only [Bool.false_eq_true, false_iff]
          rintro ⟨i, h3, h4⟩
          by_cases hij : i = j
          · subst hij; rw [h4] at h2; exact h2 rfl
          · have : b = true := hb.mpr ⟨i, by omega, h4⟩
            rw [h] at this; cases this
        · cases hq : g_lk ln lo hi (W j) (W (j + 1)) with
          | none => rw [hq] at h2; exact absurd h2.symm (i_m1ne (by omega))
          | some l' =>
            rw [hq] at h2
            have hl' := (g_lk_lt hN hq).1
            have : l' = l := (nI_eq (by omega) (by omega)).mp h2
            subst this
            exact ⟨j, by omega, hq⟩
  exact bX10_isOver_0 (key m 0 (by omega) false (by simp))
