/-! ===== the net, and the reference's first reads of it ===== -/
def g_net (n ln : Nat) (lo hi : Nat → Nat) : Prop := 2 ≤ n ∧ n ≤ 8 ∧ ln ≤ 14 ∧ (∀ l, l < ln → lo l < hi l ∧ hi l < n) ∧ ∀ l l', l < ln → l' < ln → lo l = lo l' → hi l = hi l' → l = l'
def g_lkp (lo hi : Nat → Nat) (u v l : Nat) : Bool := (lo l == u && hi l == v) || (lo l == v && hi l == u)
def g_lk (ln : Nat) (lo hi : Nat → Nat) (u v : Nat) : Option Nat := g_fst (g_lkp lo hi u v) ln
def g_e (ln : Nat) (lo hi c : Nat → Nat) (S : Nat) (u v : Nat) : Option Nat := match g_lk ln lo hi u v with
  | some l => if S.testBit l = true then some (c l) else none
  | none => none
def g_cs (ln : Nat) (c : Nat → Nat) : Prop := ∀ l, l < ln → 1 ≤ c l ∧ c l ≤ 9
theorem g_lkp_iff {lo hi : Nat → Nat} {u v l : Nat} : g_lkp lo hi u v l = true ↔ (lo l = u ∧ hi l = v) ∨ (lo l = v ∧ hi l = u) := by simp [g_lkp]
theorem g_lkp_sym (lo hi : Nat → Nat) (u v l : Nat) : g_lkp lo hi u v l = g_lkp lo hi v u l := by simp [g_lkp, Bool.or_comm]
theorem g_lk_sym (ln : Nat) (lo hi : Nat → Nat) (u v : Nat) : g_lk ln lo hi u v = g_lk ln lo hi v u := g_fst_congr fun l _ => g_lkp_sym lo hi u v l
theorem g_lk_some {n ln : Nat} {lo hi : Nat → Nat} (hN : g_net n ln lo hi) {u v l : Nat} : g_lk ln lo hi u v = some l ↔ l < ln ∧ ((lo l = u ∧ hi l = v) ∨ (lo l = v ∧ hi l = u)) := by
  rw [g_lk, g_fst_some]
  constructor
  · rintro ⟨h1, h2, -⟩
    exact ⟨h1, g_lkp_iff.mp h2⟩
  · rintro ⟨h1, h2⟩
    refine ⟨h1, g_lkp_iff.mpr h2, fun j hj => ?_⟩
    cases hp : g_lkp lo hi u v j with
    | false => rfl
    | true =>
      have h3 := g_lkp_iff.mp hp
      have a := hN.2.2.2.1 l h1
      have b := hN.2.2.2.1 j (by omega)
      have := hN.2.2.2.2 j l (by omega) h1 (by omega) (by omega)
      omega
theorem g_lk_lt {n ln : Nat} {lo hi : Nat → Nat} (hN : g_net n ln lo hi) {u v l : Nat} (h : g_lk ln lo hi u v = some l) : l < ln ∧ u < n ∧ v < n ∧ u ≠ v := by
  obtain ⟨h1, h2⟩ := (g_lk_some hN).mp h
  have a := hN.2.2.2.1 l h1
  refine ⟨h1, ?_, ?_, ?_⟩ <;> omega
theorem g_e_ok {n ln : Nat} {lo hi c : Nat → Nat} (hN : g_net n ln lo hi) (hc : g_cs ln c) (S : Nat) : g_ok (g_e ln lo hi c S) n := by
  refine ⟨hN.2.1, fun u v w h => ?_, fun u v => ?_⟩
  · unfold g_e at h
    cases hl : g_lk ln lo hi u v with
    | none => rw [hl] at h; cases h
    | some l =>
      rw [hl] at h
      dsimp only at h
      have a := g_lk_lt hN hl
      have b := hc l a.1
      split at h
      · cases h
        exact ⟨b.1, b.2, a.2.1, a.2.2.1⟩
      · cases h
  · unfold g_e
    rw [g_lk_sym]
theorem g_e_some {ln : Nat} {lo hi c : Nat → Nat} {S u v w : Nat} : g_e ln lo hi c S u v = some w ↔ ∃ l, g_lk ln lo hi u v = some l ∧ S.testBit l = true ∧ c l = w := by
  unfold g_e
  cases hl : g_lk ln lo hi u v with
  | none => simp
  | some l =>
    by_cases h : S.testBit l = true
    · simp [h]
    · simp [h]
/-- what the reference holds of the net -/
def mG (I : Nat → Nat → Int32) (n ln : Nat) (lo hi : Nat → Nat) : Prop := I 3136 0 = nI n ∧ I 3137 0 = nI ln ∧ ∀ l, l < ln → I 3200 l = nI (lo l) ∧ I 3264 l = nI (hi l)
theorem mG.sm {S : List Nat} {I I' : Nat → Nat → Int32} {n ln : Nat} {lo hi : Nat → Nat} (h : mG I n ln lo hi) (hs : Sm S I I') (h1 : 3136 ∉ S) (h2 : 3137 ∉ S) (h3 : 3200 ∉ S) (h4 : 3264 ∉ S) : mG I' n ln lo hi := by
  unfold mG
  rw [hs _ h1, hs _ h2, hs _ h3, hs _ h4]
  exact h
theorem s_in {a b c : Nat} {I : Nat → Nat → Int32} {L : Nat → Int64} {Q : Option Value → (Nat → Nat → Int32) → (Nat → Int64) → Prop} {x y z : Int32} (hb : Bool) (h : hb = true ↔ (¬ x < y ∧ ¬ z < x)) (K : Q (some (.int (i_b hb))) I L) : XS mX10_in 0 [(0, .int x), (1, .int y), (2, .int z)] [] I L Q := by
  refine bX10_in_0 (fun h1 => ?_) (fun h1 => bX10_in_5 (fun h2 => ?_) (fun h2 => ?_))
  · refine bX10_in_14 (bX10_in_15 (Or.inl rfl) ?_)
    have : hb = false := by cases hb <;> simp_all
    rw [this] at K; exact K
  · refine bX10_in_14 (bX10_in_15 (Or.inl rfl) ?_)
    have : hb = false := by cases hb <;> simp_all
    rw [this] at K; exact K
  · refine bX10_in_10 (bX10_in_15 (Or.inr rfl) ?_)
    have : hb = true := h.mpr ⟨h1, h2⟩
    rw [this] at K; exact K
theorem s_has {S l : Nat} {I : Nat → Nat → Int32} {L : Nat → Int64} {Q : Option Value → (Nat → Nat → Int32) → (Nat → Int64) → Prop} (hS : S < 2 ^ 31) (hl : l < 31) (K : Q (some (.int (i_b (S.testBit l)))) I L) : XS mX10_has 0 [(0, .int (nI S)), (1, .int (nI l))] [] I L Q := by
  refine bX10_has_0 (fun h => ?_) (fun h => ?_)
  · rw [i_bit hS hl, i_b1] at h
    refine bX10_has_13 (bX10_has_14 (Or.inl rfl) ?_)
    rw [show S.testBit l = false by simpa using h] at K
    exact K
  · rw [i_bit hS hl, i_b1] at h
    refine bX10_has_9 (bX10_has_14 (Or.inr rfl) ?_)
    rw [h] at K
    exact K
/-- is a number told a node's? -/
def g_is (n : Nat) (x : Int32) : Bool := decide (0 ≤ x ∧ x < nI n)
theorem g_is_iff {n : Nat} (hn : n < 2 ^ 31) {x : Int32} : g_is n x = true ↔ ∃ a, a < n ∧ x = nI a := by
  unfold g_is
  rw [decide_eq_true_eq]
  constructor
  · rintro ⟨h1, h2⟩
    obtain ⟨a, ha, rfl⟩ := nI_of (Int32.not_lt.mpr h1)
    exact ⟨a, (nI_ltI ha hn).mp h2, rfl⟩
  · rintro ⟨a, ha, rfl⟩
    exact ⟨nI_pos' (by omega), nI_lt ha hn⟩
theorem g_in_iff {n : Nat} (hn : n < 2 ^ 31) {x : Int32} : g_is n x = true ↔ (¬ x < 0 ∧ ¬ (nI n - 1) < x) := by
  rw [g_is_iff hn]
  constructor
  · rintro ⟨a, ha, rfl⟩
    refine ⟨nI_pos (by omega), ?_⟩
    rw [show (1 : Int32) = nI 1 from rfl, i_sub (by omega), nI_ltI (by omega) (by omega)]
    omega
  · rintro ⟨h1, h2⟩
    obtain ⟨a, ha, rfl⟩ := nI_of h1
    refine ⟨a, ?_, rfl⟩
    cases n with
    | zero =>
      exfalso
      apply h2
      rw [nI_0, Int32.lt_iff_toInt_lt, nI_toInt ha]
      have : ((0 : Int32) - 1).toInt = -1 := by decide
      omega
    | succ n =>
      rw [nI_pred, nI_ltI (by omega) ha] at h2
      omega
theorem s_isNode {n ln : Nat} {lo hi : Nat → Nat} {I : Nat → Nat → Int32} {L : Nat → Int64} {Q : Option Value → (Nat → Nat → Int32) → (Nat → Int64) → Prop} {x : Int32} (hG : mG I n ln lo hi) (hn : n < 2 ^ 31) (K : Q (some (.int (i_b (g_is n x)))) I L) : XS mX10_isNode 0 [(0, .ref 49), (1, .int x)] [] I L Q := by
  refine bX10_isNode_0 ?_
  rw [hG.1]
  exact s_in (a := 0) (b := 0) (c := 0) (g_is n x) (g_in_iff hn) (bX10_isNode_11 (i_b01 _) K)
theorem s_isLink {n ln : Nat} {lo hi : Nat → Nat} {I : Nat → Nat → Int32} {L : Nat → Int64} {Q : Option Value → (Nat → Nat → Int32) → (Nat → Int64) → Prop} {x : Int32} (hG : mG I n ln lo hi) (hn : ln < 2 ^ 31) (K : Q (some (.int (i_b (g_is ln x)))) I L) : XS mX10_isLink 0 [(0, .ref 49), (1, .int x)] [] I L Q := by
  refine bX10_isLink_0 ?_
  rw [hG.2.1]
  exact s_in (a := 0) (b := 0) (c := 0) (g_is ln x) (g_in_iff hn) (bX10_isLink_11 (i_b01 _) K)
theorem s_linkOf {n ln : Nat} {lo hi : Nat → Nat} {I : Nat → Nat → Int32} {L : Nat → Int64} {Q : Option Value → (Nat → Nat → Int32) → (Nat → Int64) → Prop} {u v : Nat} (hG : mG I n ln lo hi) (hN : g_net n ln lo hi) (hu : u < 2 ^ 31) (hv : v < 2 ^ 31) (K : Q (some (.int (i_o (g_lk ln lo hi u v)))) I L) : XS mX10_linkOf 0 [(0, .ref 49), (1, .int (nI u)), (2, .int (nI v))] [] I L Q := by
  have hln := hN.2.2.1
  have key : ∀ k l, l + k = ln → (∀ j, j < l → g_lkp lo hi u v j = false) → XS mX10_linkOf 2 [(0, .ref 49), (1, .int (nI u)), (2, .int (nI v)), (3, .int (nI l))] [] I L Q := by
    intro k
    induction k with
    | zero =>
      intro l hl hj
      refine bX10_linkOf_2 (fun _ => bX10_linkOf_58 ?_) (fun h => ?_)
      · have : g_lk ln lo hi u v = none := g_fst_none.mpr (fun i hi => hj i (by omega))
        rw [this] at K; exact K
      · rw [hG.2.1, nI_leI (by omega) (by omega)] at h; omega
    | succ k ih =>
      intro l hl hj
      have hb := hN.2.2.2.1 l (by omega)
      have hn := hN.2.1
      obtain ⟨e1, e2⟩ := hG.2.2 l (by omega)
      have hvp : vp_in (nI l) 14 := vp_in_nI (by omega) (by decide)
      have next : g_lkp lo hi u v l = false → XS mX10_linkOf 52 [(0, .ref 49), (1, .int (nI u)), (2, .int (nI v)), (3, .int (nI l))] [] I L Q := fun hf => by
        refine bX10_linkOf_52 ?_
        rw [nI_1]
        refine ih (l + 1) (by omega) (fun j hj' => ?_)
        by_cases hjl : j = l
        · subst hjl; exact hf
        · exact hj j (by omega)
      have found : g_lkp lo hi u v l = true → XS mX10_linkOf 50 [(3, .int (nI l))] [] I L Q := fun ht => by
        refine bX10_linkOf_50 ?_
        have : g_lk ln lo hi u v = some l := g_fst_some.mpr ⟨by omega, ht, hj⟩
        rw [this] at K; exact K
      have second : ¬ (lo l = u ∧ hi l = v) → XS mX10_linkOf 30 [(0, .ref 49), (1, .int (nI u)), (2, .int (nI v)), (3, .int (nI l))] [] I L Q := fun hno => by
        refine bX10_linkOf_30 hvp (fun h => ?_) (fun h => bX10_linkOf_40 hvp (fun h' => ?_) (fun h' => ?_))
        · rw [nI_clamp (by omega), e1, nI_eq (by omega) (by omega)] at h
          exact next (by rw [Bool.eq_false_iff, ne_eq, g_lkp_iff]; omega)
        · rw [nI_clamp (by omega), e1, nI_eq (by omega) (by omega)] at h
          rw [nI_clamp (by omega), e2, nI_eq (by omega) (by omega)] at h'
          exact next (by rw [Bool.eq_false_iff, ne_eq, g_lkp_iff]; omega)
        · rw [nI_clamp (by omega), e1, nI_eq (by omega) (by omega)] at h
          rw [nI_clamp (by omega), e2, nI_eq (by omega) (by omega)] at h'
          exact found (by rw [g_lkp_iff]; omega)
      refine bX10_linkOf_2 (fun h => ?_) (fun _ => bX10_linkOf_10 hvp (fun h => ?_) (fun h => bX10_linkOf_20 hvp (fun h' => ?_) (fun h' => ?_)))
      · rw [hG.2.1, nI_leI (by omega) (by omega)] at h; omega
      · rw [nI_clamp (by omega), e1, nI_eq (by omega) (by omega)] at h
        exact second (by omega)
      · rw [nI_clamp (by omega), e1, nI_eq (by omega) (by omega)] at h
        rw [nI_clamp (by omega), e2, nI_eq (by omega) (by omega)] at h'
        exact found (by rw [g_lkp_iff]; omega)
      · rw [nI_clamp (by omega), e2, nI_eq (by omega) (by omega)] at h'
        exact second (by omega)
  refine bX10_linkOf_0 ?_
  exact key ln 0 (by omega) (fun j hj => by omega)
theorem s_otherEnd {n ln : Nat} {lo hi : Nat → Nat} {I : Nat → Nat → Int32} {L : Nat → Int64} {Q : Option Value → (Nat → Nat → Int32) → (Nat → Int64) → Prop} {l u : Nat} (hG : mG I n ln lo hi) (hN : g_net n ln lo hi) (hl : l < ln) (hu : u < 2 ^ 31) (K : Q (some (.int (nI (if lo l = u then hi l else lo l)))) I L) : XS mX10_otherEnd 0 [(0, .ref 49), (1, .int (nI l)), (2, .int (nI u))] [] I L Q := by
  have hln := hN.2.2.1
  have hb := hN.2.2.2.1 l hl
  have hn := hN.2.1
  obtain ⟨e1, e2⟩ := hG.2.2 l hl
  have hvp : vp_in (nI l) 14 := vp_in_nI (by omega) (by decide)
  refine bX10_otherEnd_0 hvp (fun h => bX10_otherEnd_19 hvp (bX10_otherEnd_25 ?_)) (fun h => bX10_otherEnd_10 hvp (bX10_otherEnd_25 ?_))
  · rw [nI_clamp (by omega), e1, nI_eq (by omega) (by omega)] at h
    rw [if_neg h] at K
    rw [nI_clamp (by omega), e1]; exact K
  · rw [nI_clamp (by omega), e1, nI_eq (by omega) (by omega)] at h
    rw [if_pos h] at K
    rw [nI_clamp (by omega), e2]; exact K
/-- costs (kind 0), delays (kind 1) -/
def mC (I : Nat → Nat → Int32) (ln kind : Nat) (c : Nat → Nat) : Prop := ∀ l, l < ln → I 3392 (14 * kind + l) = nI (c l)
theorem s_length {I : Nat → Nat → Int32} {L : Nat → Int64} {Q : Option Value → (Nat → Nat → Int32) → (Nat → Int64) → Prop} {l ln kind : Nat} {c : Nat → Nat} (hC : mC I ln kind c) (hk : kind < 2) (hl : l < ln) (hln : ln ≤ 14) (K : Q (some (.int (nI (c l)))) I L) : XS mX10_length 0 [(0, .ref 49), (1, .int (nI l)), (2, .int (nI kind))] [] I L Q := by
  have e := hC l hl
  refine bX10_length_0 (fun h => bX10_length_12 (bX10_length_14 ?_ ?_)) (fun h => bX10_length_8 (bX10_length_14 ?_ ?_))
  · exact i_vp (14 + l) (nI_add 14 l) (by omega) (by decide)
  · rw [show (0 : Int32) = nI 0 from rfl, nI_eq (by omega) (by omega)] at h
    have : kind = 1 := by omega
    subst this
    rw [i_cl (x := (14 : Int32) + nI l) (14 + l) (nI_add 14 l) (by omega), e]; exact K
  · exact i_vp (0 + l) (nI_add 0 l) (by omega) (by decide)
  · rw [show (0 : Int32) = nI 0 from rfl, nI_eq (by omega) (by omega)] at h
    subst h
    rw [i_cl (x := (0 : Int32) + nI l) (0 + l) (nI_add 0 l) (by omega), e]; exact K
