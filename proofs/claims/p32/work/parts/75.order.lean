/-! ===== an order, and what learning by it leaves ===== -/
theorem q_FL_le (σ : g_St) (v M w u : Nat) : g_FL (q_nU (q_le σ v)) (q_nS (q_le σ v)) M w u = g_FL (q_nU σ) (q_nS σ) (M ||| 2 ^ v) w u := by
  obtain ⟨n, ln, lo, hi, c0, c1, U, seen⟩ := σ
  unfold g_FL
  have e1 : q_nU (q_le (n, ln, lo, hi, c0, c1, U, seen) v) u w = q_nU (n, ln, lo, hi, c0, c1, U, seen) u w := rfl
  have e2 : q_nS (q_le (n, ln, lo, hi, c0, c1, U, seen) v) u w = g_nxt (g_e ln lo hi c0 (g_set seen v U u)) n u w := rfl
  have e3 : q_nS (n, ln, lo, hi, c0, c1, U, seen) u w = g_nxt (g_e ln lo hi c0 (seen u)) n u w := rfl
  have e4 : q_nU (n, ln, lo, hi, c0, c1, U, seen) u w = g_nxt (g_e ln lo hi c0 U) n u w := rfl
  rw [g_or_bit, e1, e2, e3, e4]
  by_cases hM : M.testBit u = true
  · rw [hM]; simp
  · have hM' : M.testBit u = false := by simpa using hM
    rw [hM', Bool.false_or]
    by_cases e : v = u
    · rw [decide_eq_true e, ← e, g_set_at]; simp
    · rw [decide_eq_false e, g_set_off (fun z => e z.symm)]
theorem q_FL_le' (σ : g_St) (v M w : Nat) : g_FL (q_nU (q_le σ v)) (q_nS (q_le σ v)) M w = g_FL (q_nU σ) (q_nS σ) (M ||| 2 ^ v) w := funext (fun u => q_FL_le σ v M w u)
theorem q_rm_le (σ : g_St) (v M w : Nat) : q_rm (q_le σ v) M w = q_rm σ (M ||| 2 ^ v) w := by
  unfold q_rm g_rm
  have : g_rb (q_nU (q_le σ v)) (q_nS (q_le σ v)) (q_le σ v).1 M w = g_rb (q_nU σ) (q_nS σ) σ.1 (M ||| 2 ^ v) w := by
    funext u
    unfold g_rb
    rw [q_FL_le']
    rfl
  rw [this]
  rfl
theorem q_sf_le (σ : g_St) (v M : Nat) : q_sf (q_le σ v) M = q_sf σ (M ||| 2 ^ v) := by
  unfold q_sf g_safe
  have : (fun w => decide (g_rm (q_nU (q_le σ v)) (q_nS (q_le σ v)) (q_le σ v).1 M w ≠ 0)) = (fun w => decide (g_rm (q_nU σ) (q_nS σ) σ.1 (M ||| 2 ^ v) w ≠ 0)) := by
    funext w
    have := q_rm_le σ v M w
    unfold q_rm at this
    rw [this]
  rw [this]
  rfl
theorem q_bh_bit (σ : g_St) (i : Nat) : (q_bh σ).testBit i = (decide (i < σ.1) && decide (σ.2.2.2.2.2.2.2 i ≠ σ.2.2.2.2.2.2.1)) := by
  unfold q_bh g_bh
  exact g_mk_bit _ _ _
theorem q_bh_le (σ : g_St) (v : Nat) (hv : (q_bh σ).testBit v = true) : q_bh σ = q_bh (q_le σ v) ||| 2 ^ v ∧ (q_bh (q_le σ v)).testBit v = false := by
  have e : ∀ i, (q_bh (q_le σ v)).testBit i = (decide (i < σ.1) && decide (g_set σ.2.2.2.2.2.2.2 v σ.2.2.2.2.2.2.1 i ≠ σ.2.2.2.2.2.2.1)) := fun i => q_bh_bit (q_le σ v) i
  have e0 : (q_bh (q_le σ v)).testBit v = false := by rw [e v, g_set_at]; simp
  refine ⟨Nat.eq_of_testBit_eq (fun i => ?_), e0⟩
  rw [g_or_bit]
  by_cases h : v = i
  · rw [← h, hv, decide_eq_true rfl, Bool.or_true]
  · rw [decide_eq_false h, Bool.or_false, e i, g_set_off (fun z => h z.symm), q_bh_bit]
theorem g_cn_le {sf sf' : Nat → Bool} {n B B' v : Nat} (hB : B = B' ||| 2 ^ v) (hv : B'.testBit v = false) (hs : ∀ M, sf' M = sf (M ||| 2 ^ v)) : ∀ k y, y.testBit v = false → g_cn sf n B k (y ||| 2 ^ v) → g_cn sf' n B' k y := by
  intro k
  induction k with
  | zero =>
    intro y hy h
    have h : y ||| 2 ^ v = B := h
    show y = B'
    refine Nat.eq_of_testBit_eq (fun i => ?_)
    by_cases hi : v = i
    · rw [← hi, hy, hv]
    · have h2 : (y ||| 2 ^ v).testBit i = (B' ||| 2 ^ v).testBit i := by rw [h.trans hB]
      rw [g_or_bit, g_or_bit, decide_eq_false hi, Bool.or_false, Bool.or_false] at h2
      exact h2
  | succ k ih =>
    intro y hy h
    obtain ⟨u, h1, h2, h3, h4, h5⟩ := h
    rw [g_or_bit, Bool.or_eq_false_iff] at h3
    have huv : ¬ v = u := fun z => by rw [decide_eq_true z] at h3; cases h3.2
    have e : y ||| 2 ^ v ||| 2 ^ u = y ||| 2 ^ u ||| 2 ^ v := by rw [Nat.or_assoc, Nat.or_comm (2 ^ v), ← Nat.or_assoc]
    rw [e] at h4 h5
    refine ⟨u, h1, ?_, h3.1, ?_, ih (y ||| 2 ^ u) ?_ h5⟩
    · rw [hB, g_or_bit, decide_eq_false huv, Bool.or_false] at h2
      exact h2
    · rw [hs]; exact h4
    · rw [g_or_bit, hy, decide_eq_false (fun z => huv z.symm)]; rfl
/-- the first of an order: it is behind, safe, and an order of the rest stands behind it -/
theorem q_first {σ : g_St} {r : Int32} (hc : g_can (q_sf σ) σ.1 (q_bh σ) 0) (hp : 0 < g_pc σ.1 (q_bh σ)) (h : g_OA (q_sf σ) σ.1 (q_bh σ) 0 r) : ∃ v, r = nI v ∧ v < σ.1 ∧ (q_bh σ).testBit v = true ∧ q_sf σ (2 ^ v) = true ∧ g_can (q_sf (q_le σ v)) σ.1 (q_bh (q_le σ v)) 0 ∧ g_pc σ.1 (q_bh (q_le σ v)) + 1 = g_pc σ.1 (q_bh σ) := by
  rcases h with ⟨a, -⟩ | ⟨-, a, -⟩ | ⟨-, a, -⟩ | ⟨k, hk, a, -, b⟩
  · exact absurd a (by decide)
  · exact absurd hc a
  · exact absurd a (by decide)
  · have hk0 : k = 0 := by
      have := (i_eq 0 k rfl rfl (by decide) hk).mp a
      omega
    subst hk0
    rcases b with ⟨b, -⟩ | ⟨-, o, S, ⟨b1, b2⟩, rfl⟩
    · omega
    · obtain ⟨-, ⟨d1, d2, d3, d4, d5⟩, -⟩ := b2 0 (by omega)
      rw [b1, Nat.zero_or] at d4 d5
      obtain ⟨e1, e2⟩ := q_bh_le σ (o 0) d2
      refine ⟨o 0, rfl, d1, d2, d4, ?_, ?_⟩
      · obtain ⟨k, hk⟩ := d5
        refine ⟨k, g_cn_le e1 e2 (fun M => q_sf_le σ (o 0) M) k 0 (Nat.zero_testBit _) ?_⟩
        rw [Nat.zero_or]
        exact hk
      · rw [g_pc_cnt, g_pc_cnt]
        have := g_cnt_or (x := q_bh (q_le σ (o 0))) (n := σ.1) d1 e2
        rw [← e1] at this
        exact this.symm
theorem q_rm_0 {σ : g_St} {v w : Nat} (h : q_sf σ (2 ^ v) = true) (hw : w < σ.1) : q_rm (q_le σ v) 0 w = 0 := by
  rw [q_rm_le, Nat.zero_or]
  exact g_safe_iff.mp h w hw
/-- how many: by what order answers at -1 -/
theorem q_many {σ : g_St} {r : Int32} (h : g_OA (q_sf σ) σ.1 (q_bh σ) (-1) r) : r = -4 ∨ (g_can (q_sf σ) σ.1 (q_bh σ) 0 ∧ r = nI (g_pc σ.1 (q_bh σ))) := by
  rcases h with ⟨a, -⟩ | ⟨-, -, a⟩ | ⟨a, -, b⟩ | ⟨k, hk, a, -⟩
  · exact absurd a (by decide)
  · exact Or.inl a
  · exact Or.inr ⟨a, b⟩
  · exact absurd a (i_neg (by decide) hk)
theorem q_OA_can {σ : g_St} {r : Int32} (hc : g_can (q_sf σ) σ.1 (q_bh σ) 0) (h : g_OA (q_sf σ) σ.1 (q_bh σ) (-1) r) : r = nI (g_pc σ.1 (q_bh σ)) := by
  rcases h with ⟨a, -⟩ | ⟨-, a, -⟩ | ⟨-, -, b⟩ | ⟨k, hk, a, -⟩
  · exact absurd a (by decide)
  · exact absurd hc a
  · exact b
  · exact absurd a (i_neg (by decide) hk)
/-! ===== all have learnt ===== -/
theorem g_en_all {e : Nat → Nat → Option Nat} {n : Nat} (he : g_ok e n) (w : Nat) : ∀ k u, g_rk e n u w < k → u < n → g_en (fun x => g_nxt e n x w) w k u = true := by
  intro k
  induction k with
  | zero => intro u hk; exact absurd hk (Nat.not_lt_zero _)
  | succ k ih =>
    intro u hk hu
    show (decide (u = w) || (match g_nxt e n u w with | none => true | some y => g_en (fun x => g_nxt e n x w) w k y)) = true
    cases hx : g_nxt e n u w with
    | none => simp
    | some v =>
      have h1 := g_nxt_rk he hx
      have h2 := (g_nxt_some he hx).1
      rw [Bool.or_eq_true]
      exact Or.inr (ih v (by omega) h2)
/-- all hold just what is up -/
def q_all (σ : g_St) : Prop := ∀ u, u < σ.1 → σ.2.2.2.2.2.2.2 u = σ.2.2.2.2.2.2.1
theorem q_rm_all {σ : g_St} (hok : g_okS σ) (ha : q_all σ) (M w : Nat) : q_rm σ M w = 0 := by
  obtain ⟨n, ln, lo, hi, c0, c1, U, seen⟩ := σ
  obtain ⟨hN, hc0, -⟩ := hok
  have ha : ∀ u, u < n → seen u = U := ha
  unfold q_rm g_rm
  refine g_mk_0.mpr (fun u hu => ?_)
  have hu : u < n := hu
  have he := g_e_ok hN hc0 U
  unfold g_rb
  have hFL : ∀ x, x < n → g_FL (q_nU (n, ln, lo, hi, c0, c1, U, seen)) (q_nS (n, ln, lo, hi, c0, c1, U, seen)) M w x = g_nxt (g_e ln lo hi c0 U) n x w := fun x hx => by
    unfold g_FL
    split
    · rfl
    · show g_nxt (g_e ln lo hi c0 (seen x)) n x w = _
      rw [ha x hx]
  have key : ∀ k x, x < n → g_en (g_FL (q_nU (n, ln, lo, hi, c0, c1, U, seen)) (q_nS (n, ln, lo, hi, c0, c1, U, seen)) M w) w k x = g_en (fun x => g_nxt (g_e ln lo hi c0 U) n x w) w k x := by
    intro k
    induction k with
    | zero => intro x _; rfl
    | succ k ih =>
      intro x hx
      show (decide (x = w) || (match g_FL _ _ M w x with | none => true | some y => g_en _ w k y)) = (decide (x = w) || (match g_nxt (g_e ln lo hi c0 U) n x w with | none => true | some y => g_en _ w k y))
      rw [hFL x hx]
      cases hy : g_nxt (g_e ln lo hi c0 U) n x w with
      | none => rfl
      | some y =>
        dsimp only
        rw [ih y (g_nxt_some he hy).1]
  show (!g_en _ w n u) = false
  rw [key n u hu, g_en_all he w n u (g_rk_le hu) hu]
  rfl
theorem q_sf_all {σ : g_St} (hok : g_okS σ) (ha : q_all σ) (M : Nat) : q_sf σ M = true := g_safe_iff.mpr (fun w _ => q_rm_all hok ha M w)
theorem q_bh_all {σ : g_St} (ha : q_all σ) : q_bh σ = 0 := g_bh_0 ha
theorem q_can_all {σ : g_St} (ha : q_all σ) : g_can (q_sf σ) σ.1 (q_bh σ) 0 := ⟨0, (q_bh_all ha).symm⟩
