/-! ===== the net, and the reference's first reads of it ===== -/
def g_net (n ln : Nat) (lo hi : Nat → Nat) : Prop := 2 ≤ n ∧ n ≤ 8 ∧ ln ≤ 14 ∧ (∀ l, l < ln → lo l < hi l ∧ hi l < n) ∧ ∀ l l', l < ln → l' < ln → lo l = lo l' → hi l = hi l' → l = l'
def g_lkp (lo hi : Nat → Nat) (u v l : Nat) : Bool := (lo l == u && hi l == v) || (lo l == v && hi l == u)
def g_lk (ln : Nat) (lo hi : Nat → Nat) (u v : Nat) : Option Nat := g_fst (g_lkp lo hi u v) ln
def g_e (ln : Nat) (lo hi c : Nat → Nat) (S : Nat) (u v : Nat) : Option Nat := match g_lk ln lo hi u v with
  | some l => if S.testBit l = true then some (c l) else none
  | none => none
def g_cs (ln : Nat) (c : Nat → Nat) : Prop := ∀ l, l < ln → 1 ≤ c l ∧ c l ≤ 9
theorem g_lkp_iff {lo hi : Nat → Nat} {u v l : Nat} : g_lkp lo hi u v l = true ↔ (lo l = u ∧ hi l = v) ∨ (lo l = v ∧ hi l = u) := by simp [g_lkp]
theorem g_lkp_sym (lo hi : Nat → Nat) (u v l : Nat) : g_lkp lo hi u v l = g_lkp lo hi v u l := by simp [g_lkp, Bool.or_comm]
theorem g_lk_sym (ln : Nat) (lo hi : Nat → Nat) (u v : Nat) : g_lk ln lo hi u v = g_lk ln lo hi v u := g_fst_congr fun l _ => g_lkp_sym lo hi u v l
theorem g_lk_some {n ln : Nat} {lo hi : Nat → Nat} (hN : g_net n ln lo hi) {u v l : Nat} : g_lk ln lo hi u v = some l ↔ l < ln ∧ ((lo l = u ∧ hi l = v) ∨ (lo l = v ∧ hi l = u)) := by
  rw [g_lk, g_fst_some]
  constructor
  · rintro ⟨h1, h2, -⟩
    exact ⟨h1, g_lkp_iff.mp h2⟩
  · rintro ⟨h1, h2⟩
    refine ⟨h1, g_lkp_iff.mpr h2, fun j hj => ?_⟩
    cases hp : g_lkp lo hi u v j with
    | false => rfl
    | true =>
      have h3 := g_lkp_iff.mp hp
      have a := hN.2.2.2.1 l h1
      have b := hN.2.2.2.1 j (by omega)
      have := hN.2.2.2.2 j l (by omega) h1 (by omega) (by omega)
      omega
theorem g_lk_lt {n ln : Nat} {lo hi : Nat → Nat} (hN : g_net n ln lo hi) {u v l : Nat} (h : g_lk ln lo hi u v = some l) : l < ln ∧ u < n ∧ v < n ∧ u ≠ v := by
  obtain ⟨h1, h2⟩ := (g_lk_some hN).mp h
  have a := hN.2.2.2.1 l h1
  refine ⟨h1, ?_, ?_, ?_⟩ <;> omega
theorem g_e_ok {n ln : Nat} {lo hi c : Nat → Nat} (hN : g_net n ln lo hi) (hc : g_cs ln c) (S : Nat) : g_ok (g_e ln lo hi c S) n := by
  refine ⟨hN.2.1, fun u v w h => ?_, fun u v => ?_⟩
  · unfold g_e at h
    cases hl : g_lk ln lo hi u v with
    | none => rw [hl] at h; cases h
    | some l =>
      rw [hl] at h
      dsimp only at h
      have a := g_lk_lt hN hl
      have b := hc l a.1
      split at h
      · cases h
        exact ⟨b.1, b.2, a.2.1, a.2.2.1⟩
      · cases h
  · unfold g_e
    rw [g_lk_sym]
theorem g_e_some {ln : Nat} {lo hi c : Nat → Nat} {S u v w : Nat} : g_e ln lo hi c S u v = some w ↔ ∃ l, g_lk ln lo hi u v = some l ∧ S.testBit l = true ∧ c l = w := by
  unfold g_e
  cases hl : g_lk ln lo hi u v with
  | none => simp
  | some l =>
    by_cases h : S.testBit l = true
    · simp [h]
    · simp [h]
/-- is a number told a node's? -/
def g_is (n : Nat) (x : Int32) : Bool := decide (0 ≤ x ∧ x < nI n)
theorem g_is_iff {n : Nat} (hn : n < 2 ^ 31) {x : Int32} : g_is n x = true ↔ ∃ a, a < n ∧ x = nI a := by
  unfold g_is
  rw [decide_eq_true_eq]
  constructor
  · rintro ⟨h1, h2⟩
    obtain ⟨a, ha, rfl⟩ := nI_of (Int32.not_lt.mpr h1)
    exact ⟨a, (nI_ltI ha hn).mp h2, rfl⟩
  · rintro ⟨a, ha, rfl⟩
    exact ⟨nI_pos' (by omega), nI_lt ha hn⟩
theorem g_in_iff {n : Nat} (hn : n < 2 ^ 31) {x : Int32} : g_is n x = true ↔ (¬ x < 0 ∧ ¬ (nI n - 1) < x) := by
  rw [g_is_iff hn]
  constructor
  · rintro ⟨a, ha, rfl⟩
    refine ⟨nI_pos (by omega), ?_⟩
    rw [show (1 : Int32) = nI 1 from rfl, i_sub (by omega), nI_ltI (by omega) (by omega)]
    omega
  · rintro ⟨h1, h2⟩
    obtain ⟨a, ha, rfl⟩ := nI_of h1
    refine ⟨a, ?_, rfl⟩
    cases n with
    | zero =>
      exfalso
      apply h2
      rw [nI_0, Int32.lt_iff_toInt_lt, nI_toInt ha]
      have : ((0 : Int32) - 1).toInt = -1 := by decide
      omega
    | succ n =>
      rw [nI_pred, nI_ltI (by omega) ha] at h2
      omega
