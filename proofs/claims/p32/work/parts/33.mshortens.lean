/-! ===== the reference's short list, whole ===== -/
def g_v9 (x : Nat) : Nat := if x = 1000 then 9999 else x
theorem g_v9_1000 : g_v9 1000 = 9999 := rfl
theorem g_v9_lt {x : Nat} (h : x < 1000) : g_v9 x = x := by unfold g_v9; rw [if_neg (by omega)]
theorem g_v9_le {x : Nat} (h : x = 1000 ∨ x ≤ 8) : g_v9 x ≤ 9999 := by unfold g_v9; split <;> omega
noncomputable def g_wt (ln : Nat) (lo hi : Nat → Nat) (W : Nat → Nat) (by_ : Nat → Nat → Option Nat) (i j : Nat) : Nat := if by_ i j = some 2 then (g_lk ln lo hi (W i) (W j)).getD 0 else W j
