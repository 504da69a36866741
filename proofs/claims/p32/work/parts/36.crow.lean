/-! ===== rows and segments ===== -/
def kR (o rl ra N : Nat) : Prop := x_SH[o]? = some (0, 6) ∧ ∃ A, x_RF (64 * o + 0) = some A ∧ x_SH[A]? = some (1, N) ∧ 64 * A = ra ∧ 64 * o + 1 = rl ∧ rl ≠ ra ∧ N < 2 ^ 31
def kS (o rl ra rb N : Nat) : Prop := x_SH[o]? = some (0, 7) ∧ ∃ A B, x_RF (64 * o + 0) = some A ∧ x_RF (64 * o + 1) = some B ∧ x_SH[A]? = some (1, N) ∧ x_SH[B]? = some (1, N) ∧ 64 * A = ra ∧ 64 * B = rb ∧ 64 * o + 2 = rl ∧ rl ≠ ra ∧ rl ≠ rb ∧ ra ≠ rb ∧ N < 2 ^ 31
theorem c_rput' {o rl ra N m : Nat} {v : Int32} {I : Nat → Nat → Int32} {L : Nat → Int64} {Q : Option Value → (Nat → Nat → Int32) → (Nat → Int64) → Prop} (h : kR o rl ra N) (hm : I rl 0 = nI m) (hmN : m < N) (K : Q none (x_up (x_up I ra m v) rl 0 (nI (m + 1))) L) : XS mX6_put 0 [(0, .ref o), (1, .int v)] [] I L Q := by
  obtain ⟨a, A, b, c, d, e, f, g⟩ := h
  exact c_rput a b c d e f hm hmN g K
theorem c_rtake {o o' rl rl' ra ra' N N' m : Nat} {I : Nat → Nat → Int32} {L : Nat → Int64} {Q : Option Value → (Nat → Nat → Int32) → (Nat → Int64) → Prop} (h : kR o rl ra N) (h' : kR o' rl' ra' N') (d1 : rl' ≠ rl) (d2 : rl' ≠ ra) (d3 : ra' ≠ rl) (d4 : ra' ≠ ra) (hm : I rl' 0 = nI m) (hmN : m ≤ N) (hmN' : m ≤ N')
    (K : ∀ I', Sm [rl, ra] I I' → I' rl 0 = nI m → (∀ p, p < m → I' ra p = I ra' p) → Q none I' L) : XS mX6_takeOver 0 [(0, .ref o), (1, .ref o')] [] I L Q := by
  obtain ⟨a, A, b, c, d, e, f, g⟩ := id h
  obtain ⟨a', A', b', c', d', e', f', g'⟩ := id h'
  have key : ∀ k p I', p + k = m → Sm [rl, ra] I I' → I' rl 0 = nI p → (∀ q, q < p → I' ra q = I ra' q) → XS mX6_takeOver 7 [(0, .ref o), (1, .ref o'), (2, .int (nI p))] [] I' L Q := by
    intro k
    induction k with
    | zero =>
      intro p I' hp hs hl hq
      refine bX6_takeOver_7 a' (fun _ => bX6_takeOver_31 (K I' hs (by rw [hl, show p = m by omega]) (fun q hq' => hq q (by omega)))) (fun h => ?_)
      rw [e', hs rl' (by simp [d1, d2]), hm, nI_leI (by omega) (by omega)] at h
      omega
    | succ k ih =>
      intro p I' hp hs hl hq
      refine bX6_takeOver_7 a' (fun h => ?_) (fun _ => bX6_takeOver_15 a' b' c' (vp_in_nI (by omega) g') a ?_)
      · rw [e', hs rl' (by simp [d1, d2]), hm, nI_leI (by omega) (by omega)] at h
        omega
      · refine c_rput' h hl (by omega) (bX6_takeOver_25 ?_)
        rw [nI_1, nI_clamp (by omega), d', hs ra' (by simp [d3, d4])]
        refine ih (p + 1) _ (by omega) ((hs.up (by simp)).up (by simp)) (by rw [x_up_at]) (fun q hq' => ?_)
        rw [x_up_ne f.symm]
        by_cases hqp : q = p
        · subst hqp; rw [x_up_at]
        · rw [x_up_off hqp]; exact hq q (by omega)
  refine bX6_takeOver_0 a ?_
  rw [e]
  exact key m 0 _ (by omega) (Sm.rf.up (by simp)) (by rw [x_up_at]; rfl) (fun q hq => by omega)
theorem c_sput' {o rl ra rb N m : Nat} {v w : Int32} {I : Nat → Nat → Int32} {L : Nat → Int64} {Q : Option Value → (Nat → Nat → Int32) → (Nat → Int64) → Prop} (h : kS o rl ra rb N) (hm : I rl 0 = nI m) (hmN : m < N) (K : Q none (x_up (x_up (x_up I ra m v) rb m w) rl 0 (nI (m + 1))) L) : XS mX7_put 0 [(0, .ref o), (1, .int v), (2, .int w)] [] I L Q := by
  obtain ⟨a, A, B, b, b', c, c', d, d', e, f, f', f2, g⟩ := h
  exact c_sput a b b' c c' d d' e f f' hm hmN g K
/-- what is told of a row: how many, or one of them -/
def g_told (m : Nat) (f : Nat → Int32) (x : Int32) : Int32 := if x = -1 then nI m else if g_is m x = true then f x.toNatClampNeg else -1
theorem g_told_congr {m : Nat} (hm : m < 2 ^ 31) {f f' : Nat → Int32} {x : Int32} (h : ∀ k, k < m → f k = f' k) : g_told m f x = g_told m f' x := by
  unfold g_told
  by_cases h1 : x = -1
  · rw [if_pos h1, if_pos h1]
  · rw [if_neg h1, if_neg h1]
    by_cases h2 : g_is m x = true
    · rw [if_pos h2, if_pos h2]
      obtain ⟨a, ha, rfl⟩ := (g_is_iff hm).mp h2
      rw [nI_clamp (by omega)]
      exact h a ha
    · rw [if_neg h2, if_neg h2]
theorem c_rtold {o rl ra N m : Nat} {x : Int32} {I : Nat → Nat → Int32} {L : Nat → Int64} {Q : Option Value → (Nat → Nat → Int32) → (Nat → Int64) → Prop} (h : kR o rl ra N) (hm : I rl 0 = nI m) (hmN : m ≤ N) (K : Q (some (.int (g_told m (I ra) x))) I L) : XS mX6_told 0 [(0, .ref o), (1, .int x)] [] I L Q := by
  obtain ⟨a, A, b, c, d, e, f, g⟩ := id h
  refine bX6_told_0 (fun h1 => bX6_told_10 (fun h2 => bX6_told_31 (bX6_told_32 ?_)) (fun h2 => bX6_told_14 a (fun h3 => bX6_told_31 (bX6_told_32 ?_)) (fun h3 => ?_))) (fun h1 => bX6_told_5 a ?_)
  · unfold g_told at K
    rw [if_neg h1, if_neg (by rw [g_is_neg h2]; simp)] at K
    exact K
  · rw [e, hm] at h3
    unfold g_told at K
    rw [if_neg h1, if_neg (by rw [g_is_ge h3]; simp)] at K
    exact K
  · rw [e, hm] at h3
    have h4 := g_is_in h2 h3
    obtain ⟨y, hy, rfl⟩ := (g_is_iff (by omega)).mp h4
    refine bX6_told_22 a b c (vp_in_nI (by omega) g) (bX6_told_32 ?_)
    unfold g_told at K
    rw [if_neg h1, if_pos h4] at K
    rw [d]
    exact K
  · unfold g_told at K
    rw [if_pos h1] at K
    rw [e, hm]
    exact K
theorem c_stold {o rl ra rb N m : Nat} {x : Int32} {I : Nat → Nat → Int32} {L : Nat → Int64} {Q : Option Value → (Nat → Nat → Int32) → (Nat → Int64) → Prop} (h : kS o rl ra rb N) (hm : I rl 0 = nI m) (hmN : m ≤ N) (K : Q (some (.int (g_told m (fun t => 100 * I ra t + I rb t) x))) I L) : XS mX7_told 0 [(0, .ref o), (1, .int x)] [] I L Q := by
  obtain ⟨a, A, B, b, b2, c, c2, d, d0, e, f, f2, f3, g⟩ := id h
  refine bX7_told_0 (fun h1 => bX7_told_10 (fun h2 => bX7_told_41 (bX7_told_42 ?_)) (fun h2 => bX7_told_14 a (fun h3 => bX7_told_41 (bX7_told_42 ?_)) (fun h3 => ?_))) (fun h1 => bX7_told_5 a ?_)
  · unfold g_told at K
    rw [if_neg h1, if_neg (by rw [g_is_neg h2]; simp)] at K
    exact K
  · rw [e, hm] at h3
    unfold g_told at K
    rw [if_neg h1, if_neg (by rw [g_is_ge h3]; simp)] at K
    exact K
  · rw [e, hm] at h3
    have h4 := g_is_in h2 h3
    obtain ⟨y, hy, rfl⟩ := (g_is_iff (by omega)).mp h4
    refine bX7_told_22 a b c (vp_in_nI (by omega) g) b2 c2 (vp_in_nI (by omega) g) (bX7_told_42 ?_)
    unfold g_told at K
    rw [if_neg h1, if_pos h4] at K
    rw [d, d0]
    exact K
  · unfold g_told at K
    rw [if_pos h1] at K
    rw [e, hm]
    exact K
