/-! ===== the reference reads a clause ===== -/
theorem g_okS_E {σ : g_St} (hok : g_okS σ) : 2 ≤ σ.1 ∧ σ.1 ≤ 8 ∧ σ.2.1 ≤ 14 ∧ g_net σ.1 σ.2.1 σ.2.2.1 σ.2.2.2.1 := by
  obtain ⟨n, ln, lo, hi, c0, c1, U, seen⟩ := σ
  exact ⟨hok.1.1, hok.1.2.1, hok.1.2.2.1, hok.1⟩
