/-! ===== the net as told, and the class does a clause ===== -/
abbrev g_St := Nat × Nat × (Nat → Nat) × (Nat → Nat) × (Nat → Nat) × (Nat → Nat) × Nat × (Nat → Nat)
def g_okS : g_St → Prop
  | (n, ln, lo, hi, c0, c1, U, seen) => g_net n ln lo hi ∧ g_cs ln c0 ∧ g_cs ln c1 ∧ U < 2 ^ ln ∧ ∀ u, u < n → seen u < 2 ^ ln
def cSt (I : Nat → Nat → Int32) : g_St → Prop
  | (n, ln, lo, hi, c0, c1, U, seen) => cG I n ln lo hi ∧ cC I ln 0 c0 ∧ cC I ln 1 c1 ∧ I 66 0 = nI U ∧ ∀ u, u < n → I 448 u = nI (seen u)
def g_set (f : Nat → Nat) (l v : Nat) : Nat → Nat := fun j => if j = l then v else f j
theorem g_set_at {f : Nat → Nat} {l v : Nat} : g_set f l v l = v := by simp [g_set]
theorem g_set_off {f : Nat → Nat} {l v j : Nat} (h : j ≠ l) : g_set f l v j = f j := by simp [g_set, h]
def g_ap : g_St → g_Cl → g_St
  | (_, _, lo, hi, c0, c1, _, _), .inl k => (k, 0, lo, hi, c0, c1, 0, fun _ => 0)
  | (n, ln, lo, hi, c0, c1, U, seen), .inr (u, v, c, d) => match g_lk ln lo hi u v with
    | some l => (n, ln, lo, hi, g_set c0 l c, g_set c1 l d, U, seen)
    | none => (n, ln + 1, g_set lo ln (min u v), g_set hi ln (max u v), g_set c0 ln c, g_set c1 ln d, U ||| 2 ^ ln, fun w => seen w ||| 2 ^ ln)
theorem g_lk_El {n ln u v : Nat} {lo hi : Nat → Nat} (hN : g_net n ln lo hi) (huv : u ≠ v) : g_lk ln lo hi u v = none ↔ g_pr u v ∉ g_El ln lo hi := by
  rw [g_El_mem]
  constructor
  · rintro h ⟨l, hl, e⟩
    have hb := hN.2.2.2.1 l hl
    have e' : (min u v, max u v) = (lo l, hi l) := e
    rw [Prod.mk.injEq] at e'
    have : g_lk ln lo hi u v = some l := (g_lk_some hN).mpr ⟨hl, by omega⟩
    rw [this] at h; cases h
  · intro h
    cases hl : g_lk ln lo hi u v with
    | none => rfl
    | some l =>
      obtain ⟨h1, h2⟩ := (g_lk_some hN).mp hl
      have hb := hN.2.2.2.1 l h1
      exact absurd ⟨l, h1, by show (min u v, max u v) = (lo l, hi l); rw [Prod.mk.injEq]; omega⟩ h
theorem g_El_congr {ln : Nat} {lo hi lo' hi' : Nat → Nat} (h : ∀ l, l < ln → lo l = lo' l ∧ hi l = hi' l) : g_El ln lo hi = g_El ln lo' hi' := by
  unfold g_El
  apply List.map_congr_left
  intro l hl
  rw [(h l (List.mem_range.mp hl)).1, (h l (List.mem_range.mp hl)).2]
theorem g_ap_ok {σ : g_St} {cl : g_Cl} (h : g_okS σ) (hc : g_clok σ.1 cl) (hE : (g_nxE (g_El σ.2.1 σ.2.2.1 σ.2.2.2.1) cl).length ≤ 14) : g_okS (g_ap σ cl) ∧ (g_ap σ cl).1 = g_nxN σ.1 cl ∧ g_El (g_ap σ cl).2.1 (g_ap σ cl).2.2.1 (g_ap σ cl).2.2.2.1 = g_nxE (g_El σ.2.1 σ.2.2.1 σ.2.2.2.1) cl := by
  obtain ⟨n, ln, lo, hi, c0, c1, U, seen⟩ := σ
  obtain ⟨hN, h0, h1, hU, hs⟩ := h
  cases cl with
  | inl k =>
    have hk : 2 ≤ k ∧ k ≤ 8 := hc
    exact ⟨⟨⟨hk.1, hk.2, by omega, fun l hl => by omega, fun l l' hl => by omega⟩, fun l hl => by omega, fun l hl => by omega, by decide, fun u _ => by show 0 < 2 ^ 0; decide⟩, rfl, rfl⟩
  | inr q =>
    obtain ⟨u, v, c, d⟩ := q
    obtain ⟨k1, k2, k3, k4, k5, k6, k7⟩ : u < n ∧ v < n ∧ u ≠ v ∧ 1 ≤ c ∧ c ≤ 9 ∧ 1 ≤ d ∧ d ≤ 9 := hc
    have hE' : (g_ad (g_El ln lo hi) (g_pr u v)).length ≤ 14 := hE
    cases hl : g_lk ln lo hi u v with
    | some l =>
      have e : g_ap (n, ln, lo, hi, c0, c1, U, seen) (.inr (u, v, c, d)) = (n, ln, lo, hi, g_set c0 l c, g_set c1 l d, U, seen) := by
        unfold g_ap; dsimp only; rw [hl]
      rw [e]
      have hm : g_pr u v ∈ g_El ln lo hi := by
        apply Classical.byContradiction
        intro q
        have := (g_lk_El hN k3).mpr q
        rw [hl] at this; cases this
      refine ⟨⟨hN, fun j hj => ?_, fun j hj => ?_, hU, hs⟩, rfl, ?_⟩
      · by_cases hjl : j = l
        · subst hjl; rw [g_set_at]; omega
        · rw [g_set_off hjl]; exact h0 j hj
      · by_cases hjl : j = l
        · subst hjl; rw [g_set_at]; omega
        · rw [g_set_off hjl]; exact h1 j hj
      · show g_El ln lo hi = g_ad (g_El ln lo hi) (g_pr u v)
        unfold g_ad
        rw [if_pos hm]
    | none =>
      have e : g_ap (n, ln, lo, hi, c0, c1, U, seen) (.inr (u, v, c, d)) = (n, ln + 1, g_set lo ln (min u v), g_set hi ln (max u v), g_set c0 ln c, g_set c1 ln d, U ||| 2 ^ ln, fun w => seen w ||| 2 ^ ln) := by
        unfold g_ap; dsimp only; rw [hl]
      rw [e]
      have hm := (g_lk_El hN k3).mp hl
      have hlen : ln + 1 ≤ 14 := by
        unfold g_ad at hE'
        rw [if_neg hm] at hE'
        simpa [g_El_len] using hE'
      have hp : 2 ^ ln < 2 ^ (ln + 1) := Nat.pow_lt_pow_right (by omega) (by omega)
      have nomat : ∀ l, l < ln → ¬ (lo l = min u v ∧ hi l = max u v) := fun l hl2 q => hm (g_El_mem.mpr ⟨l, hl2, by show (min u v, max u v) = (lo l, hi l); rw [q.1, q.2]⟩)
      refine ⟨⟨⟨hN.1, hN.2.1, hlen, fun l hl2 => ?_, fun l l' h2 h3 e1 e2 => ?_⟩, fun j hj => ?_, fun j hj => ?_, g_or_lt (by omega) (by omega), fun w hw => g_or_lt (by have := hs w hw; omega) (by omega)⟩, rfl, ?_⟩
      · by_cases hll : l = ln
        · subst hll; rw [g_set_at, g_set_at]; omega
        · rw [g_set_off hll, g_set_off hll]; exact hN.2.2.2.1 l (by omega)
      · by_cases a : l = ln
        · by_cases b : l' = ln
          · omega
          · subst a
            rw [g_set_at, g_set_off b] at e1 e2
            exact absurd ⟨e1.symm, e2.symm⟩ (nomat l' (by omega))
        · by_cases b : l' = ln
          · subst b
            rw [g_set_at, g_set_off a] at e1 e2
            exact absurd ⟨e1, e2⟩ (nomat l (by omega))
          · rw [g_set_off a, g_set_off b] at e1 e2
            exact hN.2.2.2.2 l l' (by omega) (by omega) e1 e2
      · by_cases hjl : j = ln
        · subst hjl; rw [g_set_at]; omega
        · rw [g_set_off hjl]; exact h0 j (by omega)
      · by_cases hjl : j = ln
        · subst hjl; rw [g_set_at]; omega
        · rw [g_set_off hjl]; exact h1 j (by omega)
      · show g_El (ln + 1) (g_set lo ln (min u v)) (g_set hi ln (max u v)) = g_ad (g_El ln lo hi) (g_pr u v)
        unfold g_ad
        rw [if_neg hm, g_El_succ, g_set_at, g_set_at]
        rw [g_El_congr (lo' := lo) (hi' := hi) (fun l hl2 => ⟨g_set_off (by omega), g_set_off (by omega)⟩)]
        rfl
theorem c_fill {a N : Nat} {v : Int32} {I : Nat → Nat → Int32} {L : Nat → Int64} {Q : Option Value → (Nat → Nat → Int32) → (Nat → Int64) → Prop} (ha : x_SH[a]? = some (1, N)) (hN : N < 2 ^ 31) (K : ∀ I', Sm [64 * a] I I' → (∀ j, j < N → I' (64 * a) j = v) → Q none I' L) : XS mJ7_fill_53178 0 [(0, .ref a), (1, .int v)] [] I L Q := by
  have key : ∀ k j I', j + k = N → Sm [64 * a] I I' → (∀ x, x < j → I' (64 * a) x = v) → XS mJ7_fill_53178 5 [(0, .ref a), (1, .int v), (2, .int (nI j)), (3, .int (Int32.ofNat N))] [] I' L Q := by
    intro k
    induction k with
    | zero =>
      intro j I' hj hs h
      exact bJ7_fill_53178_5 (fun _ => bJ7_fill_53178_20 (K I' hs (fun x hx => h x (by omega)))) (fun h2 => absurd ((nI_leI (a := N) (b := j) (by omega) (by omega)).mpr (by omega)) h2)
    | succ k ih =>
      intro j I' hj hs h
      refine bJ7_fill_53178_5 (fun h2 => ?_) (fun _ => bJ7_fill_53178_10 ha (vp_in_nI (by omega) hN) ?_)
      · have := (nI_leI (a := N) (b := j) (by omega) (by omega)).mp h2; omega
      · rw [nI_clamp (by omega), nI_1]
        refine ih (j + 1) _ (by omega) (hs.up (by simp)) (fun x hx => ?_)
        by_cases hxj : x = j
        · subst hxj; rw [x_up_at]
        · rw [x_up_off hxj]; exact h x (by omega)
  exact bJ7_fill_53178_0 ha (key N 0 I (by omega) Sm.rf (fun x hx => by omega))
