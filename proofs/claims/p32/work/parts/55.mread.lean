/-! ===== the reference takes tokens, figures, names ===== -/
theorem i_48 : ∀ x, x < 256 → ∀ a, a < 10 → (¬ nI x - 48 < nI a ↔ 48 + a ≤ x) ∧ (¬ nI a < nI x - 48 ↔ x ≤ 48 + a) := by decide +kernel
