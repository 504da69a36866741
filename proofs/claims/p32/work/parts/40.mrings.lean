/-! ===== the reference's rings ===== -/
theorem g_cntM {M x n : Nat} (hx : x < n) (hm : M.testBit x = false) : g_cnt (fun y => !(M ||| 2 ^ x).testBit y) n < g_cnt (fun y => !M.testBit y) n :=
  g_cnt_lt (fun i _ q => by rw [g_or_bit] at q; simp at q ⊢; exact q.1) hx (by rw [g_or_bit]; simp) (by simp [hm])
