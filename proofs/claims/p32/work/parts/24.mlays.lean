/-! ===== the reference's sums of all pairs, and the node next ===== -/
theorem g_lk_succ (ln : Nat) (lo hi : Nat → Nat) (u v : Nat) : g_lk (ln + 1) lo hi u v = match g_lk ln lo hi u v with
    | some i => some i
    | none => if g_lkp lo hi u v ln = true then some ln else none := rfl
theorem g_e_succ {n ln l : Nat} {lo hi c : Nat → Nat} {S : Nat} (hN : g_net n ln lo hi) (hl : l < ln) (u v : Nat) : g_e (l + 1) lo hi c S u v = if g_lkp lo hi u v l = true then (if S.testBit l = true then some (c l) else none) else g_e l lo hi c S u v := by
  unfold g_e
  rw [g_lk_succ]
  cases h : g_lk l lo hi u v with
  | some i =>
    have h1 := g_fst_some.mp h
    by_cases hp : g_lkp lo hi u v l = true
    · exfalso
      have a := g_lkp_iff.mp h1.2.1
      have b := g_lkp_iff.mp hp
      have x := hN.2.2.2.1 i (by omega)
      have y := hN.2.2.2.1 l hl
      have := hN.2.2.2.2 i l (by omega) hl (by omega) (by omega)
      omega
    · simp [hp]
  | none =>
    by_cases hp : g_lkp lo hi u v l = true
    · simp [hp]
    · simp [hp]
noncomputable def g_far (e : Nat → Nat → Option Nat) (u w : Nat) : Nat := if g_dst e u w = 1000 then 9999 else g_dst e u w
def g_f0 (e : Nat → Nat → Option Nat) (u w : Nat) : Nat := if u = w then 0 else match e u w with
  | some c => c
  | none => 9999
theorem g_fw_0 {e : Nat → Nat → Option Nat} {n : Nat} (he : g_ok e n) : g_fw e 0 (g_f0 e) := by
  refine ⟨fun u _ => by simp [g_f0], fun u w _ _ => ?_, fun u w k d _ _ h => ?_⟩
  · unfold g_f0
    by_cases huw : u = w
    · rw [if_pos huw]
      exact ⟨by omega, fun _ => ⟨0, huw, rfl⟩⟩
    · rw [if_neg huw]
      cases h : e u w with
      | none => exact ⟨by simp, fun q => by simp at q⟩
      | some c =>
        have := he.2.1 u w c h
        exact ⟨by dsimp only; omega, fun _ => ⟨1, w, c, 0, h, ⟨rfl, rfl⟩, rfl⟩⟩
  · unfold g_f0
    by_cases huw : u = w
    · rw [if_pos huw]; omega
    · rw [if_neg huw]
      cases k with
      | zero => exact absurd h.1 huw
      | succ k =>
        obtain ⟨v, c, d', h1, h2, h3⟩ := h
        rcases h3 with ⟨rfl, rfl⟩ | ⟨h3, -⟩
        · rw [h1]; dsimp only; omega
        · omega
theorem i_div8 {k : Nat} (hk : k < 2 ^ 31) : nI k / (8 : Int32) = nI (k / 8) := pk_div (d := 8) hk (by decide) (by decide)
theorem i_rem8 {k : Nat} (hk : k < 2 ^ 31) : nI k - nI k / (8 : Int32) * (8 : Int32) = nI (k % 8) := pk_rem (d := 8) hk (by decide) (by decide)
theorem i_mul8 (k : Nat) : nI k * (8 : Int32) = nI (k * 8) := pk_mul k 8
theorem i_8mul (k : Nat) : (8 : Int32) * nI k = nI (8 * k) := pk_mul 8 k
