/-! ===== the reference's order, and that both answer alike ===== -/
def g_sub (x B : Nat) : Prop := ∀ i, x.testBit i = true → B.testBit i = true
theorem g_not_bit {x i : Nat} (hi : i < 32) : (x ^^^ (2 ^ 32 - 1)).testBit i = !x.testBit i := by
  rw [Nat.testBit_xor, Nat.testBit_two_pow_sub_one]
  simp [hi]
theorem i_not (x : Nat) : nI x ^^^ (-1 : Int32) = nI (x ^^^ (2 ^ 32 - 1)) := by rw [i_m1, i_xor]
theorem g_sub_iff {x B : Nat} (hx : x < 2 ^ 8) : x &&& (B ^^^ (2 ^ 32 - 1)) = 0 ↔ g_sub x B := by
  constructor
  · intro h i hi
    have h8 : i < 8 := by
      rcases Nat.lt_or_ge i 8 with q | q
      · exact q
      · have : x.testBit i = false := Nat.testBit_lt_two_pow (Nat.lt_of_lt_of_le hx (Nat.pow_le_pow_right (by omega) q))
        rw [this] at hi; cases hi
    have : (x &&& (B ^^^ (2 ^ 32 - 1))).testBit i = false := by rw [h]; simp
    rw [Nat.testBit_and, g_not_bit (by omega), hi] at this
    simpa using this
  · intro h
    apply Nat.eq_of_testBit_eq
    intro i
    rw [Nat.testBit_and]
    cases hi : x.testBit i with
    | false => simp
    | true =>
      have h8 : i < 8 := by
        rcases Nat.lt_or_ge i 8 with q | q
        · exact q
        · have : x.testBit i = false := Nat.testBit_lt_two_pow (Nat.lt_of_lt_of_le hx (Nat.pow_le_pow_right (by omega) q))
          rw [this] at hi; cases hi
      rw [g_not_bit (by omega), h i hi]; simp
theorem g_sub_or {x B v : Nat} (h : g_sub x B) (hv : B.testBit v = true) : g_sub (x ||| 2 ^ v) B := fun i hi => by
  rw [g_or_bit] at hi
  simp only [Bool.or_eq_true, decide_eq_true_eq] at hi
  rcases hi with hi | rfl
  · exact h i hi
  · exact hv
/-- the answer to an order -/
def g_OA (sf : Nat → Bool) (n B : Nat) (x r : Int32) : Prop := (x < -1 ∧ r = -3) ∨ (¬ x < -1 ∧ ¬ g_can sf n B 0 ∧ r = -4) ∨ (g_can sf n B 0 ∧ x = -1 ∧ r = nI (g_pc n B)) ∨ ∃ k, k < 2 ^ 31 ∧ x = nI k ∧ g_can sf n B 0 ∧ ((g_pc n B ≤ k ∧ r = -1) ∨ (k < g_pc n B ∧ ∃ o S, g_ord sf n B (k + 1) o S ∧ r = nI (o k)))
theorem g_OA_uni {sf : Nat → Bool} {n B : Nat} {x r r' : Int32} (h : g_OA sf n B x r) (h' : g_OA sf n B x r') : r = r' := by
  have hk : ∀ k, k < 2 ^ 31 → x = nI k → ¬ x < -1 ∧ x ≠ -1 := fun k hk hx => by
    subst hx
    refine ⟨fun q => ?_, i_m1ne hk⟩
    have h1 := i_m1lt hk
    rw [Int32.lt_iff_toInt_lt] at q h1
    omega
  have hm1 : ∀ (y : Int32), y = -1 → ¬ y < -1 := fun y hy => by subst hy; decide
  rcases h with ⟨a, b⟩ | ⟨a, b, c⟩ | ⟨a, b, c⟩ | ⟨k, a, b, c, d⟩ <;> rcases h' with ⟨a', b'⟩ | ⟨a', b', c'⟩ | ⟨a', b', c'⟩ | ⟨k', a', b', c', d'⟩
  · rw [b, b']
  · exact absurd a a'
  · exact absurd a (hm1 x b')
  · exact absurd a (hk k' a' b').1
  · exact absurd a' a
  · rw [c, c']
  · exact absurd a' b
  · exact absurd c' b
  · exact absurd a' (hm1 x b)
  · exact absurd a b'
  · rw [c, c']
  · exact absurd b (hk k' a' b').2
  · exact absurd a' (hk k a b).1
  · exact absurd c b'
  · exact absurd b' (hk k a b).2
  · have : k = k' := (nI_eq a a').mp (b.symm.trans b')
    subst this
    rcases d with ⟨e, f⟩ | ⟨e, o, S, f, g⟩
    · rcases d' with ⟨e', f'⟩ | ⟨e', _⟩
      · rw [f, f']
      · omega
    · rcases d' with ⟨e', f'⟩ | ⟨e', o', S', f', g'⟩
      · omega
      · rw [g, g', (g_ord_uni f f' k (by omega) (by omega)).2 (by omega) (by omega)]
theorem i_ge_m1 {x : Int32} : ((-1 : Int32) ≤ x) ↔ ¬ x < -1 := by
  rw [Int32.le_iff_toInt_le, Int32.lt_iff_toInt_lt]
  omega
theorem i_ge0 {x : Int32} (h : ¬ x < -1) (h1 : x ≠ -1) : ∃ k, k < 2 ^ 31 ∧ x = nI k := by
  rcases i_cases x with q | q
  · exfalso
    rw [Int32.lt_iff_toInt_lt] at h q
    rw [show (0 : Int32).toInt = 0 from rfl] at q
    rw [show (-1 : Int32).toInt = -1 from rfl] at h
    exact h1 (Int32.toInt_inj.mp (by rw [show (-1 : Int32).toInt = -1 from rfl]; omega))
  · exact q
theorem g_bh_lt {n U : Nat} {seen : Nat → Nat} (hn8 : n ≤ 8) : g_bh n U seen < 2 ^ n ∧ g_bh n U seen < 256 := by
  have h1 := g_mk_lt (fun u => decide (seen u ≠ U)) n
  have h2 := g_2n hn8
  unfold g_bh
  omega
theorem c_order {n ln U : Nat} {lo hi c seen : Nat → Nat} {x : Int32} {I : Nat → Nat → Int32} {L : Nat → Int64} {Q : Option Value → (Nat → Nat → Int32) → (Nat → Int64) → Prop} (hG : cG I n ln lo hi) (hN : g_net n ln lo hi) (hC : cC I ln 0 c) (hc : g_cs ln c) (hU : I 66 0 = nI U) (hU2 : U < 2 ^ 31) (hseen : ∀ u, u < n → I 448 u = nI (seen u) ∧ seen u < 2 ^ 31)
    (K : ∀ I' r, Sm [1088, 1152, 1216, 1408, 1344, 1472, 1600, 1537] I I' → g_OA (g_safe (g_nxt (g_e ln lo hi c U) n) (g_nS n ln lo hi c seen) n) n (g_bh n U seen) x r → Q (some (.int r)) I' L) :
    XS mX9_order 0 [(0, .ref 0), (1, .int x)] [] I L Q := by
  refine bX9_order_0 (fun h => bX9_order_8 (c_findOrder hG hN hC hc hU hU2 hseen rfl rfl (fun I' d o S s1 hl hd8 hq hord hSd hdpc => bX9_order_15 (fun h => absurd h (by decide)) (fun _ => bX9_order_18 ?_)) (fun I' s1 hno => bX9_order_15 (fun _ => bX9_order_32 (bX9_order_34 (K I' _ s1 (Or.inr (Or.inl ⟨i_ge_m1.mp h, hno, rfl⟩))))) (fun h => absurd rfl h)))) (fun h => bX9_order_5 (K I _ Sm.rf (Or.inl ⟨?_, rfl⟩)))
  · have hcan : ∀ j i, i + j = d → g_can (g_safe (g_nxt (g_e ln lo hi c U) n) (g_nS n ln lo hi c seen) n) n (g_bh n U seen) (S i) := by
      intro j
      cases j with
      | zero => intro i hi; rw [show i = d by omega, hSd]; exact ⟨0, rfl⟩
      | succ j =>
        intro i hi
        obtain ⟨_, c2, _⟩ := hord.2 i (by omega)
        exact g_can_iff.mpr (Or.inr ⟨o i, c2⟩)
    have hc0 := hcan d 0 (by omega)
    rw [hord.1] at hc0
    refine c_rtold k_order hl hd8 (bX9_order_29 (bX9_order_34 (K I' _ s1 ?_)))
    by_cases hx1 : x = -1
    · refine Or.inr (Or.inr (Or.inl ⟨hc0, hx1, ?_⟩))
      unfold g_told
      rw [if_pos hx1, hdpc]
    · obtain ⟨k, hk, rfl⟩ := i_ge0 (i_ge_m1.mp h) hx1
      refine Or.inr (Or.inr (Or.inr ⟨k, hk, rfl, hc0, ?_⟩))
      unfold g_told
      rw [if_neg hx1]
      by_cases hkd : k < d
      · rw [if_pos ((g_is_iff (by omega)).mpr ⟨k, hkd, rfl⟩), nI_clamp hk, hq k hkd]
        exact Or.inr ⟨by omega, o, S, ⟨hord.1, fun i hi => hord.2 i (by omega)⟩, rfl⟩
      · refine Or.inl ⟨by omega, ?_⟩
        rw [if_neg]
        intro q
        obtain ⟨a, ha, e⟩ := (g_is_iff (by omega)).mp q
        have := (nI_eq hk (by omega)).mp e
        omega
  · rw [i_ge_m1] at h
    exact Classical.not_not.mp h
