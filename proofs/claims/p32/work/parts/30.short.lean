/-! ===== the short list: what it is ===== -/
noncomputable def g_p (P : Prop) : Bool := @decide P (Classical.propDecidable P)
theorem g_p_iff {P : Prop} : g_p P = true ↔ P := by
  unfold g_p
  exact @decide_eq_true_iff P (Classical.propDecidable P)
theorem g_p_f {P : Prop} : g_p P = false ↔ ¬ P := by rw [Bool.eq_false_iff, ne_eq, g_p_iff]
/-- along the way from place i to place j, by the node next -/
def g_ld (nx : Nat → Nat → Option Nat) (W : Nat → Nat) (i j : Nat) : Prop := ∀ p, i ≤ p → p < j → nx (W p) (W j) = some (W (p + 1))
/-- over one link -/
def g_l2 (ln : Nat) (lo hi : Nat → Nat) (S : Nat) (W : Nat → Nat) (i j : Nat) : Prop := j = i + 1 ∧ ∃ l, g_lk ln lo hi (W i) (W j) = some l ∧ S.testBit l = true
noncomputable def g_by2 (ln : Nat) (lo hi : Nat → Nat) (S : Nat) (W : Nat → Nat) (i j : Nat) : Option Nat := if g_p (g_l2 ln lo hi S W i j) = true then some 2 else none
noncomputable def g_by1 (nx1 : Nat → Nat → Option Nat) (d1 : Bool) (ln : Nat) (lo hi : Nat → Nat) (S : Nat) (W : Nat → Nat) (i j : Nat) : Option Nat := if (d1 && g_p (g_ld nx1 W i j)) = true then some 1 else g_by2 ln lo hi S W i j
/-- the lowest kind of a segment that leads from place i to place j just so -/
noncomputable def g_by (nx0 nx1 : Nat → Nat → Option Nat) (d1 : Bool) (ln : Nat) (lo hi : Nat → Nat) (S : Nat) (W : Nat → Nat) (i j : Nat) : Option Nat := if g_p (g_ld nx0 W i j) = true then some 0 else g_by1 nx1 d1 ln lo hi S W i j
theorem g_by_lt {nx0 nx1 : Nat → Nat → Option Nat} {d1 : Bool} {ln : Nat} {lo hi : Nat → Nat} {S : Nat} {W : Nat → Nat} {i j k : Nat} (h : g_by nx0 nx1 d1 ln lo hi S W i j = some k) : k < 3 := by
  unfold g_by g_by1 g_by2 at h
  split at h
  · cases h; omega
  · split at h
    · cases h; omega
    · split at h
      · cases h; omega
      · cases h
theorem g_by_2 {nx0 nx1 : Nat → Nat → Option Nat} {d1 : Bool} {ln : Nat} {lo hi : Nat → Nat} {S : Nat} {W : Nat → Nat} {i j : Nat} (h : g_by nx0 nx1 d1 ln lo hi S W i j = some 2) : g_l2 ln lo hi S W i j := by
  unfold g_by g_by1 g_by2 at h
  split at h
  · cases h
  · split at h
    · cases h
    · split at h
      · rename_i q; exact g_p_iff.mp q
      · cases h
/-- a value that isn't 1000 is attained -/
def g_att (by_ : Nat → Nat → Option Nat) (m : Nat) (f : Nat → Nat) (i v : Nat) : Prop := v < 1000 → ∃ j, i < j ∧ j < m ∧ by_ i j ≠ none ∧ f j < 1000 ∧ v = f j + 1
/-- fewest at one place, those behind it known: 1000, or few -/
def g_sfi (by_ : Nat → Nat → Option Nat) (m : Nat) (f : Nat → Nat) (i : Nat) : Prop := (f i = 1000 ∨ f i + i + 1 ≤ m) ∧ (∀ j, i < j → j < m → by_ i j ≠ none → f j < 1000 → f i ≤ f j + 1) ∧ g_att by_ m f i (f i)
def g_sf (by_ : Nat → Nat → Option Nat) (m : Nat) (f : Nat → Nat) : Prop := f (m - 1) = 0 ∧ ∀ i, i + 1 < m → g_sfi by_ m f i
theorem g_sf_uni {by_ : Nat → Nat → Option Nat} {m : Nat} {f f' : Nat → Nat} (hm8 : m ≤ 8) (h : g_sf by_ m f) (h' : g_sf by_ m f') : ∀ d i, i + d + 1 = m → f i = f' i := by
  intro d
  induction d using Nat.strongRecOn with
  | ind d ih =>
    intro i hi
    by_cases hd : d = 0
    · have : i = m - 1 := by omega
      rw [this, h.1, h'.1]
    · obtain ⟨a1, a2, a3⟩ := h.2 i (by omega)
      obtain ⟨b1, b2, b3⟩ := h'.2 i (by omega)
      have e : ∀ j, i < j → j < m → f j = f' j := fun j hj hjm => ih (m - 1 - j) (by omega) j (by omega)
      have p1 : f i < 1000 → f' i ≤ f i := fun q => by
        obtain ⟨j, c1, c2, c3, c4, c5⟩ := a3 q
        have := b2 j c1 c2 c3 (by rw [← e j c1 c2]; exact c4)
        rw [← e j c1 c2] at this
        omega
      have p2 : f' i < 1000 → f i ≤ f' i := fun q => by
        obtain ⟨j, c1, c2, c3, c4, c5⟩ := b3 q
        have := a2 j c1 c2 c3 (by rw [e j c1 c2]; exact c4)
        rw [e j c1 c2] at this
        omega
      by_cases q1 : f i < 1000
      · have := p1 q1
        have := p2 (by omega)
        omega
      · by_cases q2 : f' i < 1000
        · have := p2 q2; omega
        · clear a2 a3 b2 b3 p1 p2 e ih h h'
          omega
/-- the furthest place that a segment of a shortest list leads to -/
def g_jp (by_ : Nat → Nat → Option Nat) (m : Nat) (f : Nat → Nat) (i j : Nat) : Prop := i < j ∧ j < m ∧ by_ i j ≠ none ∧ f j + 1 = f i ∧ ∀ j', j < j' → j' < m → ¬ (by_ i j' ≠ none ∧ f j' + 1 = f i)
theorem g_jp_uni {by_ : Nat → Nat → Option Nat} {m : Nat} {f : Nat → Nat} {i j j' : Nat} (h : g_jp by_ m f i j) (h' : g_jp by_ m f i j') : j = j' := by
  rcases Nat.lt_trichotomy j j' with q | q | q
  · exact absurd ⟨h'.2.2.1, h'.2.2.2.1⟩ (h.2.2.2.2 j' q h'.2.1)
  · exact q
  · exact absurd ⟨h.2.2.1, h.2.2.2.1⟩ (h'.2.2.2.2 j q h.2.1)
/-- the places between the segments -/
def g_sl (by_ : Nat → Nat → Option Nat) (m : Nat) (f : Nat → Nat) (T : Nat) (ps : Nat → Nat) : Prop := ps 0 = 0 ∧ ps T = m - 1 ∧ ∀ t, t < T → g_jp by_ m f (ps t) (ps (t + 1))
theorem g_jp_congr {by_ : Nat → Nat → Option Nat} {m : Nat} {f f' : Nat → Nat} {i j : Nat} (e : ∀ x, x < m → f x = f' x) (h : g_jp by_ m f i j) : g_jp by_ m f' i j := by
  obtain ⟨a, b, c, d, g⟩ := h
  refine ⟨a, b, c, by rw [← e j b, ← e i (by omega)]; exact d, fun j' h1 h2 => ?_⟩
  rw [← e j' h2, ← e i (by omega)]
  exact g j' h1 h2
theorem g_sl_uni {by_ : Nat → Nat → Option Nat} {m T T' : Nat} {f f' ps ps' : Nat → Nat} (hm : 0 < m) (hm8 : m ≤ 8) (hf : g_sf by_ m f) (hf' : g_sf by_ m f') (h : g_sl by_ m f T ps) (h' : g_sl by_ m f' T' ps') : T = T' ∧ ∀ t, t ≤ T → ps t = ps' t := by
  have e : ∀ x, x < m → f' x = f x := fun x hx => (g_sf_uni hm8 hf hf' (m - 1 - x) x (by omega)).symm
  have pre : ∀ t, t ≤ T → t ≤ T' → ps t = ps' t := by
    intro t
    induction t with
    | zero => intro _ _; rw [h.1, h'.1]
    | succ t ih =>
      intro a b
      have h1 := h.2.2 t (by omega)
      have h2 := g_jp_congr e (h'.2.2 t (by omega))
      rw [← ih (by omega) (by omega)] at h2
      exact g_jp_uni h1 h2
  have len : T = T' := by
    rcases Nat.lt_trichotomy T T' with q | q | q
    · have h1 := h'.2.2 T q
      rw [← pre T (Nat.le_refl _) (by omega), h.2.1] at h1
      have := h1.1; have := h1.2.1; omega
    · exact q
    · have h1 := h.2.2 T' q
      rw [pre T' (by omega) (Nat.le_refl _), h'.2.1] at h1
      have := h1.1; have := h1.2.1; omega
  exact ⟨len, fun t ht => pre t ht (by omega)⟩
theorem g_jp_ex {by_ : Nat → Nat → Option Nat} {m : Nat} {f : Nat → Nat} {i : Nat} (h : g_sfi by_ m f i) (hi : f i < 1000) : ∃ j, g_jp by_ m f i j := by
  obtain ⟨j0, a1, a2, a3, a4, a5⟩ := h.2.2 hi
  have key : ∀ d j, j + d + 1 = m → (∃ x, i < x ∧ x ≤ j ∧ by_ i x ≠ none ∧ f x + 1 = f i) → (∀ j', j < j' → j' < m → ¬ (by_ i j' ≠ none ∧ f j' + 1 = f i)) → ∃ j, g_jp by_ m f i j := by
    intro d j
    induction j generalizing d with
    | zero => intro _ ⟨x, q1, q2, _⟩ _; omega
    | succ j ih =>
      intro hd ⟨x, q1, q2, q3, q4⟩ hno
      by_cases hc : by_ i (j + 1) ≠ none ∧ f (j + 1) + 1 = f i
      · exact ⟨j + 1, by omega, by omega, hc.1, hc.2, hno⟩
      · have hx : x ≠ j + 1 := by rintro rfl; exact hc ⟨q3, q4⟩
        refine ih (d + 1) (by omega) ⟨x, q1, by omega, q3, q4⟩ (fun j' h1 h2 => ?_)
        by_cases hj : j' = j + 1
        · subst hj; exact hc
        · exact hno j' (by omega) h2
  exact key 0 (m - 1) (by omega) ⟨j0, a1, by omega, a3, by omega⟩ (fun j' h1 h2 => by omega)
theorem g_sl_f {by_ : Nat → Nat → Option Nat} {m T : Nat} {f ps : Nat → Nat} (h : ∀ t, t < T → g_jp by_ m f (ps t) (ps (t + 1))) (h0 : ps 0 = 0) : ∀ t, t ≤ T → f (ps t) + t = f 0 ∧ t ≤ ps t := by
  intro t
  induction t with
  | zero => intro _; rw [h0]; omega
  | succ t ih =>
    intro ht
    have a := ih (by omega)
    have b := h t (by omega)
    have := b.1
    have := b.2.2.2.1
    omega
