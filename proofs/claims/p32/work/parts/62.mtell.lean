/-! ===== the reference reads the text, finds the fault, tells ===== -/
theorem g_cl_ok {T : Nat → Nat} {len N i e : Nat} {E : List (Nat × Nat)} {cl : g_Cl} (hN : 2 ≤ N) (hE : E.length ≤ 14) (h : g_cl T len N E i = .inr (cl, e)) : g_clok N cl ∧ (g_nxE E cl).length ≤ 14 := by
  unfold g_cl at h
  split at h
  · unfold g_cln at h
    cases hn : g_nu T len (g_Z T len i) 2 8 with
    | none => rw [hn] at h; cases h
    | some y =>
      rw [hn] at h
      have hy := g_nu_lt hn
      injection h with h
      injection h with h1 h2
      subst h1
      exact ⟨hy, by simp [g_nxE]⟩
  · split at h
    · generalize g_Z T len i = j at h
      unfold g_cll at h
      cases hu : g_nu T len j 0 (N - 1) with
      | none => rw [hu] at h; cases h
      | some u =>
        rw [hu] at h
        dsimp only at h
        generalize g_Z T len j = j2 at h
        unfold g_cl2 at h
        cases hv : g_nu T len j2 0 (N - 1) with
        | none => rw [hv] at h; cases h
        | some v =>
          rw [hv] at h
          dsimp only at h
          split at h
          · cases h
          · rename_i hgood
            generalize g_Z T len j2 = j3 at h
            unfold g_cl3 at h
            cases hc : g_nu T len j3 1 9 with
            | none => rw [hc] at h; cases h
            | some c =>
              rw [hc] at h
              dsimp only at h
              generalize g_Z T len j3 = j4 at h
              unfold g_cl4 at h
              cases hd : g_nu T len j4 1 9 with
              | none => rw [hd] at h; cases h
              | some d =>
                rw [hd] at h
                injection h with h
                injection h with h1 h2
                subst h1
                have a := g_nu_lt hu
                have b := g_nu_lt hv
                have c1 := g_nu_lt hc
                have d1 := g_nu_lt hd
                refine ⟨⟨by omega, by omega, fun q => hgood (Or.inl q.symm), c1.1, c1.2, d1.1, d1.2⟩, ?_⟩
                show (g_ad E (g_pr u v)).length ≤ 14
                unfold g_ad
                split
                · exact hE
                · rename_i hm
                  have : ¬ 14 ≤ E.length := fun q => hgood (Or.inr ⟨hm, q⟩)
                  rw [List.length_append, List.length_singleton]
                  omega
    · cases h
