/-! ===== ways by the node next ===== -/
/-- W 0 .. W m is the walk from u to w -/
def g_way (f : Nat → Option Nat) (u w m : Nat) (W : Nat → Nat) : Prop := W 0 = u ∧ W m = w ∧ ∀ j, j < m → f (W j) = some (W (j + 1))
theorem g_way_ex {e : Nat → Nat → Option Nat} {n : Nat} (he : g_ok e n) {w : Nat} : ∀ (r u : Nat), u < n → g_rk e n u w = r → g_rch e u w → ∃ m W, m ≤ r ∧ g_way (fun x => g_nxt e n x w) u w m W ∧ ∀ j, j ≤ m → W j < n := by
  intro r
  induction r using Nat.strongRecOn with
  | ind r ih =>
    intro u hu hr hw
    by_cases huw : u = w
    · subst huw
      exact ⟨0, fun _ => u, Nat.zero_le _, ⟨rfl, rfl, fun j hj => by omega⟩, fun _ _ => hu⟩
    · cases hn : g_nxt e n u w with
      | none => exact absurd hw ((g_nxt_none he huw).mp hn)
      | some v =>
        have h1 := g_nxt_some he hn
        have h2 := g_nxt_rk he hn
        obtain ⟨m, W, hm, ⟨a, b, c⟩, d⟩ := ih (g_rk e n v w) (by omega) v h1.1 rfl h1.2.1
        refine ⟨m + 1, fun j => if j = 0 then u else W (j - 1), by omega, ⟨by simp, by simp [b], fun j hj => ?_⟩, fun j hj => ?_⟩
        · by_cases hj0 : j = 0
          · subst hj0; simp [hn, a]
          · have := c (j - 1) (by omega)
            simp only [if_neg hj0, if_neg (show ¬ j + 1 = 0 by omega)]
            rw [show j + 1 - 1 = j - 1 + 1 by omega]
            exact this
        · by_cases hj0 : j = 0
          · subst hj0; simp [hu]
          · simp only [if_neg hj0]; exact d (j - 1) (by omega)
theorem g_way_ex' {e : Nat → Nat → Option Nat} {n u w : Nat} (he : g_ok e n) (hu : u < n) (h : g_rch e u w) : ∃ m W, m < n ∧ g_way (fun x => g_nxt e n x w) u w m W ∧ ∀ j, j ≤ m → W j < n := by
  obtain ⟨m, W, h1, h2, h3⟩ := g_way_ex he _ u hu rfl h
  have := g_rk_le (e := e) (w := w) hu
  exact ⟨m, W, by omega, h2, h3⟩
theorem g_way_pre {f : Nat → Option Nat} {u w m m' : Nat} {W W' : Nat → Nat} (h : g_way f u w m W) (h' : g_way f u w m' W') : ∀ j, j ≤ m → j ≤ m' → W j = W' j := by
  intro j
  induction j with
  | zero => intro _ _; rw [h.1, h'.1]
  | succ j ih =>
    intro a b
    have e1 := h.2.2 j (by omega)
    have e2 := h'.2.2 j (by omega)
    rw [ih (by omega) (by omega), e2] at e1
    exact (Option.some.inj e1).symm
theorem g_way_len {f : Nat → Option Nat} {u w m m' : Nat} {W W' : Nat → Nat} (hw : f w = none) (h : g_way f u w m W) (h' : g_way f u w m' W') : m = m' := by
  rcases Nat.lt_trichotomy m m' with hlt | heq | hlt
  · have e1 := g_way_pre h h' m (Nat.le_refl _) (by omega)
    have e2 := h'.2.2 m hlt
    rw [← e1, h.2.1, hw] at e2
    cases e2
  · exact heq
  · have e1 := g_way_pre h h' m' (by omega) (Nat.le_refl _)
    have e2 := h.2.2 m' hlt
    rw [e1, h'.2.1, hw] at e2
    cases e2
theorem g_way_ne {f : Nat → Option Nat} {u w m : Nat} {W : Nat → Nat} (hw : f w = none) (h : g_way f u w m W) {j : Nat} (hj : j < m) : W j ≠ w := by
  intro e
  have := h.2.2 j hj
  rw [e, hw] at this
  cases this
/-- does a way go over link l? -/
def g_ov (ln : Nat) (lo hi : Nat → Nat) (m l : Nat) (W : Nat → Nat) : Bool := (g_fst (fun j => g_lk ln lo hi (W j) (W (j + 1)) == some l) m).isSome
theorem g_ov_iff {ln : Nat} {lo hi : Nat → Nat} {m l : Nat} {W : Nat → Nat} : g_ov ln lo hi m l W = true ↔ ∃ j, j < m ∧ g_lk ln lo hi (W j) (W (j + 1)) = some l := by
  unfold g_ov
  cases h : g_fst (fun j => g_lk ln lo hi (W j) (W (j + 1)) == some l) m with
  | none =>
    have h0 := g_fst_none.mp h
    simp only [Option.isSome_none, Bool.false_eq_true, false_iff]
    rintro ⟨j, hj, h1⟩
    have := h0 j hj
    simp [h1] at this
  | some j =>
    have h0 := g_fst_some.mp h
    simp only [Option.isSome_some, true_iff]
    exact ⟨j, h0.1, by simpa using h0.2.1⟩
