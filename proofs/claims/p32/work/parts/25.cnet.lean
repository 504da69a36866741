/-! ===== the class's reads of the net (turned from the reference's) ===== -/
def cG (I : Nat → Nat → Int32) (n ln : Nat) (lo hi : Nat → Nat) : Prop := I 64 0 = nI n ∧ I 65 0 = nI ln ∧ ∀ l, l < ln → I 128 l = nI (lo l) ∧ I 192 l = nI (hi l)
theorem cG.sm {S : List Nat} {I I' : Nat → Nat → Int32} {n ln : Nat} {lo hi : Nat → Nat} (h : cG I n ln lo hi) (hs : Sm S I I') (h1 : 64 ∉ S) (h2 : 65 ∉ S) (h3 : 128 ∉ S) (h4 : 192 ∉ S) : cG I' n ln lo hi := by
  unfold cG
  rw [hs _ h1, hs _ h2, hs _ h3, hs _ h4]
  exact h
theorem g_is_neg {n : Nat} {x : Int32} (h : x < 0) : g_is n x = false := by
  unfold g_is
  rw [decide_eq_false_iff_not]
  rintro ⟨h1, -⟩
  exact Int32.not_lt.mpr h1 h
theorem g_is_ge {n : Nat} {x : Int32} (h : nI n ≤ x) : g_is n x = false := by
  unfold g_is
  rw [decide_eq_false_iff_not]
  rintro ⟨-, h2⟩
  exact Int32.not_lt.mpr h h2
theorem g_is_in {n : Nat} {x : Int32} (h : ¬ x < 0) (h2 : ¬ nI n ≤ x) : g_is n x = true := by
  unfold g_is
  rw [decide_eq_true_eq]
  exact ⟨Int32.not_lt.mp h, Int32.not_le.mp h2⟩
theorem c_hasNode {n ln : Nat} {lo hi : Nat → Nat} {I : Nat → Nat → Int32} {L : Nat → Int64} {Q : Option Value → (Nat → Nat → Int32) → (Nat → Int64) → Prop} {x : Int32} (hG : cG I n ln lo hi) (K : Q (some (.int (i_b (g_is n x)))) I L) : XS mX2_hasNode 0 [(0, .ref 1), (1, .int x)] [] I L Q := by
  refine bX2_hasNode_0 (fun h => ?_) (fun h => bX2_hasNode_4 (fun h2 => ?_) (fun h2 => ?_))
  · rw [g_is_neg h] at K
    exact bX2_hasNode_16 (bX2_hasNode_17 (Or.inl rfl) K)
  · rw [hG.1] at h2
    rw [g_is_ge h2] at K
    exact bX2_hasNode_16 (bX2_hasNode_17 (Or.inl rfl) K)
  · rw [hG.1] at h2
    rw [g_is_in h h2] at K
    exact bX2_hasNode_12 (bX2_hasNode_17 (Or.inr rfl) K)
theorem c_hasLink {n ln : Nat} {lo hi : Nat → Nat} {I : Nat → Nat → Int32} {L : Nat → Int64} {Q : Option Value → (Nat → Nat → Int32) → (Nat → Int64) → Prop} {x : Int32} (hG : cG I n ln lo hi) (K : Q (some (.int (i_b (g_is ln x)))) I L) : XS mX2_hasLink 0 [(0, .ref 1), (1, .int x)] [] I L Q := by
  refine bX2_hasLink_0 (fun h => ?_) (fun h => bX2_hasLink_4 (fun h2 => ?_) (fun h2 => ?_))
  · rw [g_is_neg h] at K
    exact bX2_hasLink_16 (bX2_hasLink_17 (Or.inl rfl) K)
  · rw [hG.2.1] at h2
    rw [g_is_ge h2] at K
    exact bX2_hasLink_16 (bX2_hasLink_17 (Or.inl rfl) K)
  · rw [hG.2.1] at h2
    rw [g_is_in h h2] at K
    exact bX2_hasLink_12 (bX2_hasLink_17 (Or.inr rfl) K)
theorem c_linkBetween {n ln : Nat} {lo hi : Nat → Nat} {I : Nat → Nat → Int32} {L : Nat → Int64} {Q : Option Value → (Nat → Nat → Int32) → (Nat → Int64) → Prop} {u v : Nat} (hG : cG I n ln lo hi) (hN : g_net n ln lo hi) (hu : u < 2 ^ 31) (hv : v < 2 ^ 31) (K : Q (some (.int (i_o (g_lk ln lo hi u v)))) I L) : XS mX2_linkBetween 0 [(0, .ref 1), (1, .int (nI u)), (2, .int (nI v))] [] I L Q := by
  have hln := hN.2.2.1
  have key : ∀ k l, l + k = ln → (∀ j, j < l → g_lkp lo hi u v j = false) → XS mX2_linkBetween 2 [(0, .ref 1), (1, .int (nI u)), (2, .int (nI v)), (3, .int (nI l))] [] I L Q := by
    intro k
    induction k with
    | zero =>
      intro l hl hj
      refine bX2_linkBetween_2 (fun _ => bX2_linkBetween_58 ?_) (fun h => ?_)
      · have : g_lk ln lo hi u v = none := g_fst_none.mpr (fun i hi => hj i (by omega))
        rw [this] at K; exact K
      · rw [hG.2.1, nI_leI (by omega) (by omega)] at h; omega
    | succ k ih =>
      intro l hl hj
      have hb := hN.2.2.2.1 l (by omega)
      have hn := hN.2.1
      obtain ⟨e1, e2⟩ := hG.2.2 l (by omega)
      have hvp : vp_in (nI l) 14 := vp_in_nI (by omega) (by decide)
      have next : g_lkp lo hi u v l = false → XS mX2_linkBetween 52 [(0, .ref 1), (1, .int (nI u)), (2, .int (nI v)), (3, .int (nI l))] [] I L Q := fun hf => by
        refine bX2_linkBetween_52 ?_
        rw [nI_1]
        refine ih (l + 1) (by omega) (fun j hj' => ?_)
        by_cases hjl : j = l
        · subst hjl; exact hf
        · exact hj j (by omega)
      have found : g_lkp lo hi u v l = true → XS mX2_linkBetween 50 [(3, .int (nI l))] [] I L Q := fun ht => by
        refine bX2_linkBetween_50 ?_
        have : g_lk ln lo hi u v = some l := g_fst_some.mpr ⟨by omega, ht, hj⟩
        rw [this] at K; exact K
      have second : ¬ (lo l = u ∧ hi l = v) → XS mX2_linkBetween 30 [(0, .ref 1), (1, .int (nI u)), (2, .int (nI v)), (3, .int (nI l))] [] I L Q := fun hno => by
        refine bX2_linkBetween_30 hvp (fun h => ?_) (fun h => bX2_linkBetween_40 hvp (fun h' => ?_) (fun h' => ?_))
        · rw [nI_clamp (by omega), e1, nI_eq (by omega) (by omega)] at h
          exact next (by rw [Bool.eq_false_iff, ne_eq, g_lkp_iff]; omega)
        · rw [nI_clamp (by omega), e1, nI_eq (by omega) (by omega)] at h
          rw [nI_clamp (by omega), e2, nI_eq (by omega) (by omega)] at h'
          exact next (by rw [Bool.eq_false_iff, ne_eq, g_lkp_iff]; omega)
        · rw [nI_clamp (by omega), e1, nI_eq (by omega) (by omega)] at h
          rw [nI_clamp (by omega), e2, nI_eq (by omega) (by omega)] at h'
          exact found (by rw [g_lkp_iff]; omega)
      refine bX2_linkBetween_2 (fun h => ?_) (fun _ => bX2_linkBetween_10 hvp (fun h => ?_) (fun h => bX2_linkBetween_20 hvp (fun h' => ?_) (fun h' => ?_)))
      · rw [hG.2.1, nI_leI (by omega) (by omega)] at h; omega
      · rw [nI_clamp (by omega), e1, nI_eq (by omega) (by omega)] at h
        exact second (by omega)
      · rw [nI_clamp (by omega), e1, nI_eq (by omega) (by omega)] at h
        rw [nI_clamp (by omega), e2, nI_eq (by omega) (by omega)] at h'
        exact found (by rw [g_lkp_iff]; omega)
      · rw [nI_clamp (by omega), e2, nI_eq (by omega) (by omega)] at h'
        exact second (by omega)
  refine bX2_linkBetween_0 ?_
  exact key ln 0 (by omega) (fun j hj => by omega)
theorem c_isUp {U l : Nat} {I : Nat → Nat → Int32} {L : Nat → Int64} {Q : Option Value → (Nat → Nat → Int32) → (Nat → Int64) → Prop} (hU : I 66 0 = nI U) (hU2 : U < 2 ^ 31) (hl : l < 31) (K : Q (some (.int (i_b (U.testBit l)))) I L) : XS mX2_isUp 0 [(0, .ref 1), (1, .int (nI l))] [] I L Q := by
  refine bX2_isUp_0 (fun h => ?_) (fun h => ?_)
  · rw [hU, i_bit hU2 hl, i_b1] at h
    rw [show U.testBit l = false by simpa using h] at K
    exact bX2_isUp_16 (bX2_isUp_17 (Or.inl rfl) K)
  · rw [hU, i_bit hU2 hl, i_b1] at h
    rw [h] at K
    exact bX2_isUp_12 (bX2_isUp_17 (Or.inr rfl) K)
def g_oe (lo hi : Nat → Nat) (l u : Nat) : Option Nat := if lo l = u then some (hi l) else if hi l = u then some (lo l) else none
theorem c_otherEnd {n ln : Nat} {lo hi : Nat → Nat} {I : Nat → Nat → Int32} {L : Nat → Int64} {Q : Option Value → (Nat → Nat → Int32) → (Nat → Int64) → Prop} {l u : Nat} (hG : cG I n ln lo hi) (hN : g_net n ln lo hi) (hl : l < ln) (hu : u < 2 ^ 31) (K : Q (some (.int (i_o (g_oe lo hi l u)))) I L) : XS mX2_otherEnd 0 [(0, .ref 1), (1, .int (nI l)), (2, .int (nI u))] [] I L Q := by
  have hln := hN.2.2.1
  have hb := hN.2.2.2.1 l hl
  have hn := hN.2.1
  obtain ⟨e1, e2⟩ := hG.2.2 l hl
  have hvp : vp_in (nI l) 14 := vp_in_nI (by omega) (by decide)
  have hi1 : g_is ln (nI l) = true := (g_is_iff (by omega)).mpr ⟨l, hl, rfl⟩
  refine bX2_otherEnd_0 (c_hasLink hG (bX2_otherEnd_5 (fun _ => bX2_otherEnd_10 hvp (fun h => bX2_otherEnd_27 hvp (fun h2 => bX2_otherEnd_46 (bX2_otherEnd_47 ?_)) (fun h2 => bX2_otherEnd_37 hvp (bX2_otherEnd_47 ?_))) (fun h => bX2_otherEnd_20 hvp ?_)) (fun h => ?_)))
  · rw [nI_clamp (by omega), e1, nI_eq (by omega) (by omega)] at h
    rw [nI_clamp (by omega), e2, nI_eq (by omega) (by omega)] at h2
    unfold g_oe at K
    rw [if_neg h, if_neg h2] at K
    exact K
  · rw [nI_clamp (by omega), e1, nI_eq (by omega) (by omega)] at h
    rw [nI_clamp (by omega), e2, nI_eq (by omega) (by omega)] at h2
    unfold g_oe at K
    rw [if_neg h, if_pos h2] at K
    rw [nI_clamp (by omega), e1]; exact K
  · rw [nI_clamp (by omega), e1, nI_eq (by omega) (by omega)] at h
    unfold g_oe at K
    rw [if_pos h] at K
    rw [nI_clamp (by omega), e2]; exact K
  · rw [hi1] at h
    exact absurd h (by decide)
