/-! ===== ways: counting, walks, the least sum, the node next ===== -/
def g_cnt (p : Nat → Bool) : Nat → Nat
  | 0 => 0
  | n + 1 => g_cnt p n + (if p n = true then 1 else 0)
theorem g_cnt_le (p : Nat → Bool) : ∀ n, g_cnt p n ≤ n
  | 0 => Nat.le_refl _
  | n + 1 => by
    have := g_cnt_le p n
    simp only [g_cnt]
    split <;> omega
theorem g_cnt_mono {p q : Nat → Bool} : ∀ {n : Nat}, (∀ i, i < n → p i = true → q i = true) → g_cnt p n ≤ g_cnt q n
  | 0, _ => Nat.le_refl _
  | n + 1, h => by
    have := g_cnt_mono (n := n) (fun i hi => h i (by omega))
    simp only [g_cnt]
    by_cases hp : p n = true
    · have hq := h n (by omega) hp
      simp [hp, hq]; omega
    · simp [hp]; omega
theorem g_cnt_lt {p q : Nat → Bool} : ∀ {n : Nat}, (∀ i, i < n → p i = true → q i = true) → ∀ {k : Nat}, k < n → p k = false → q k = true → g_cnt p n < g_cnt q n
  | 0, _, _, h, _, _ => by omega
  | n + 1, h, k, hk, hp, hq => by
    simp only [g_cnt]
    by_cases hkn : k = n
    · subst hkn
      have := g_cnt_mono (n := k) (fun i hi => h i (by omega))
      simp [hp, hq]; omega
    · have := g_cnt_lt (n := n) (fun i hi => h i (by omega)) (k := k) (by omega) hp hq
      by_cases hpn : p n = true
      · have hqn := h n (by omega) hpn
        simp [hpn, hqn]; omega
      · simp [hpn]; omega
theorem g_cnt_lt_n {p : Nat → Bool} {n k : Nat} (hk : k < n) (hp : p k = false) : g_cnt p n < n := by
  have h1 := g_cnt_lt (p := p) (q := fun _ => true) (n := n) (fun _ _ _ => rfl) hk hp rfl
  have h2 := g_cnt_le (fun _ => true) n
  omega
theorem g_cnt_congr {p q : Nat → Bool} {n : Nat} (h : ∀ i, i < n → p i = q i) : g_cnt p n = g_cnt q n :=
  Nat.le_antisymm (g_cnt_mono fun i hi hp => by rw [← h i hi]; exact hp) (g_cnt_mono fun i hi hp => by rw [h i hi]; exact hp)
/-- the first below n -/
def g_fst (p : Nat → Bool) : Nat → Option Nat
  | 0 => none
  | n + 1 => match g_fst p n with
    | some i => some i
    | none => if p n = true then some n else none
theorem g_fst_none {p : Nat → Bool} : ∀ {n : Nat}, g_fst p n = none ↔ ∀ i, i < n → p i = false
  | 0 => by simp [g_fst]
  | n + 1 => by
    have ih := g_fst_none (p := p) (n := n)
    simp only [g_fst]
    cases h : g_fst p n with
    | some j =>
      rw [h] at ih
      refine ⟨fun q => (by cases q), fun q => ?_⟩
      exact absurd (ih.mpr fun i hi => q i (by omega)) (by simp)
    | none =>
      have h0 := ih.mp h
      by_cases hp : p n = true
      · simp only [hp, if_true]
        refine ⟨fun q => (by cases q), fun q => ?_⟩
        have := q n (by omega)
        rw [hp] at this; cases this
      · simp only [hp]
        refine ⟨fun _ i hi => ?_, fun _ => by simp⟩
        by_cases hin : i = n
        · subst hin; simpa using hp
        · exact h0 i (by omega)
theorem g_fst_some {p : Nat → Bool} : ∀ {n i : Nat}, g_fst p n = some i ↔ i < n ∧ p i = true ∧ ∀ j, j < i → p j = false
  | 0, i => by simp [g_fst]
  | n + 1, i => by
    have ih := g_fst_some (p := p) (n := n) (i := i)
    simp only [g_fst]
    cases h : g_fst p n with
    | some j =>
      have hj := (g_fst_some (p := p) (n := n) (i := j)).mp h
      rw [h] at ih
      constructor
      · intro q
        have := ih.mp q
        exact ⟨by omega, this.2⟩
      · rintro ⟨q1, q2, q3⟩
        by_cases hin : i = n
        · subst hin
          have := q3 j hj.1
          rw [hj.2.1] at this; cases this
        · exact ih.mpr ⟨by omega, q2, q3⟩
    | none =>
      have h0 := g_fst_none.mp h
      by_cases hp : p n = true
      · simp only [hp, if_true]
        constructor
        · intro q
          cases q
          exact ⟨by omega, hp, h0⟩
        · rintro ⟨q1, q2, q3⟩
          by_cases hin : i = n
          · rw [hin]
          · have := h0 i (by omega)
            rw [q2] at this; cases this
      · simp only [hp]
        constructor
        · intro q; simp at q
        · rintro ⟨q1, q2, q3⟩
          by_cases hin : i = n
          · subst hin; exact absurd q2 hp
          · have := h0 i (by omega)
            rw [q2] at this; cases this
theorem g_fst_congr {p q : Nat → Bool} {n : Nat} (h : ∀ i, i < n → p i = q i) : g_fst p n = g_fst q n := by
  cases hq : g_fst q n with
  | none =>
    rw [g_fst_none] at hq ⊢
    intro i hi
    rw [h i hi]; exact hq i hi
  | some i =>
    rw [g_fst_some] at hq ⊢
    obtain ⟨h1, h2, h3⟩ := hq
    exact ⟨h1, by rw [h i h1]; exact h2, fun j hj => by rw [h j (by omega)]; exact h3 j hj⟩
/-- a walk of k steps, with its sum -/
def g_wk (e : Nat → Nat → Option Nat) : Nat → Nat → Nat → Nat → Prop
  | 0, u, w, d => u = w ∧ d = 0
  | k + 1, u, w, d => ∃ v c d', e u v = some c ∧ g_wk e k v w d' ∧ d = c + d'
def g_rch (e : Nat → Nat → Option Nat) (u w : Nat) : Prop := ∃ d k, g_wk e k u w d
noncomputable def g_dst (e : Nat → Nat → Option Nat) (u w : Nat) : Nat := @dite Nat (g_rch e u w) (Classical.propDecidable _) (fun h => Classical.choose (pk_least _ h)) (fun _ => 1000)
theorem g_dst_wk {e : Nat → Nat → Option Nat} {u w : Nat} (h : g_rch e u w) : ∃ k, g_wk e k u w (g_dst e u w) := by
  unfold g_dst
  rw [dif_pos h]
  exact (Classical.choose_spec (pk_least _ h)).1
theorem g_dst_le {e : Nat → Nat → Option Nat} {k u w d : Nat} (h : g_wk e k u w d) : g_dst e u w ≤ d := by
  have hr : g_rch e u w := ⟨d, k, h⟩
  unfold g_dst
  rw [dif_pos hr]
  by_cases hlt : d < Classical.choose (pk_least _ hr)
  · exact absurd ⟨k, h⟩ ((Classical.choose_spec (pk_least _ hr)).2 d hlt)
  · omega
theorem g_dst_no {e : Nat → Nat → Option Nat} {u w : Nat} (h : ¬ g_rch e u w) : g_dst e u w = 1000 := by
  unfold g_dst
  rw [dif_neg h]
theorem g_dst_self (e : Nat → Nat → Option Nat) (u : Nat) : g_dst e u u = 0 := by
  have := g_dst_le (e := e) (k := 0) (u := u) (w := u) (d := 0) ⟨rfl, rfl⟩
  omega
theorem g_rch_self (e : Nat → Nat → Option Nat) (u : Nat) : g_rch e u u := ⟨0, 0, rfl, rfl⟩
theorem g_rch_edge {e : Nat → Nat → Option Nat} {u v w c : Nat} (h : e u v = some c) (hv : g_rch e v w) : g_rch e u w := by
  obtain ⟨d, k, hk⟩ := hv
  exact ⟨c + d, k + 1, v, c, d, h, hk, rfl⟩
theorem g_dst_edge {e : Nat → Nat → Option Nat} {u v w c : Nat} (h : e u v = some c) (hv : g_rch e v w) : g_dst e u w ≤ c + g_dst e v w := by
  obtain ⟨k, hk⟩ := g_dst_wk hv
  exact g_dst_le (k := k + 1) ⟨v, c, _, h, hk, rfl⟩
theorem g_dst_step {e : Nat → Nat → Option Nat} {u w : Nat} (hu : g_rch e u w) (hne : u ≠ w) : ∃ v c, e u v = some c ∧ g_rch e v w ∧ g_dst e u w = c + g_dst e v w := by
  obtain ⟨k, hk⟩ := g_dst_wk hu
  cases k with
  | zero => exact absurd hk.1 hne
  | succ k =>
    obtain ⟨v, c, d', h1, h2, h3⟩ := hk
    have hv : g_rch e v w := ⟨d', k, h2⟩
    have a := g_dst_le h2
    have b := g_dst_edge h1 hv
    exact ⟨v, c, h1, hv, by omega⟩
/-- what a set of links gives: each of 1 to 9, between nodes below n, both ways -/
def g_ok (e : Nat → Nat → Option Nat) (n : Nat) : Prop := n ≤ 8 ∧ (∀ u v c, e u v = some c → 1 ≤ c ∧ c ≤ 9 ∧ u < n ∧ v < n) ∧ ∀ u v, e u v = e v u
noncomputable def g_rk (e : Nat → Nat → Option Nat) (n u w : Nat) : Nat := g_cnt (fun x => decide (g_dst e x w < g_dst e u w)) n
theorem g_rk_lt {e : Nat → Nat → Option Nat} {n u v w : Nat} (hv : v < n) (h : g_dst e v w < g_dst e u w) : g_rk e n v w < g_rk e n u w := by
  refine g_cnt_lt (fun i _ hi => ?_) hv (by simp) (by simpa using h)
  simp only [decide_eq_true_eq] at hi ⊢
  omega
theorem g_rk_le {e : Nat → Nat → Option Nat} {n u w : Nat} (hu : u < n) : g_rk e n u w < n := g_cnt_lt_n hu (by simp)
theorem g_dst_rk {e : Nat → Nat → Option Nat} {n : Nat} (he : g_ok e n) {w : Nat} : ∀ (d : Nat) (u : Nat), g_dst e u w = d → g_rch e u w → g_dst e u w ≤ 9 * g_rk e n u w := by
  intro d
  induction d using Nat.strongRecOn with
  | ind d ih =>
    intro u hd hu
    by_cases hne : u = w
    · subst hne
      rw [g_dst_self]
      omega
    · obtain ⟨v, c, h1, h2, h3⟩ := g_dst_step hu hne
      have hc := he.2.1 u v c h1
      have := ih (g_dst e v w) (by omega) v rfl h2
      have hr := g_rk_lt (e := e) (n := n) (u := u) (v := v) (w := w) hc.2.2.2 (by omega)
      omega
theorem g_dst_63 {e : Nat → Nat → Option Nat} {n : Nat} (he : g_ok e n) {u w : Nat} (hu : u < n) (h : g_rch e u w) : g_dst e u w ≤ 63 := by
  have h1 := g_dst_rk he _ u rfl h
  have h2 := g_rk_le (e := e) (w := w) hu
  have h3 := he.1
  omega
theorem g_dst_cases {e : Nat → Nat → Option Nat} {n : Nat} (he : g_ok e n) {u w : Nat} (hu : u < n) : (g_rch e u w ∧ g_dst e u w ≤ 63) ∨ (¬ g_rch e u w ∧ g_dst e u w = 1000) := by
  by_cases h : g_rch e u w
  · exact Or.inl ⟨h, g_dst_63 he hu h⟩
  · exact Or.inr ⟨h, g_dst_no h⟩
theorem g_rch_edge' {e : Nat → Nat → Option Nat} {n : Nat} (he : g_ok e n) {u v w c : Nat} (h : e u v = some c) (hu : g_rch e u w) : g_rch e v w :=
  g_rch_edge (by rw [he.2.2]; exact h) hu
/-- the node next: the lowest that lies on a least way -/
noncomputable def g_nxp (e : Nat → Nat → Option Nat) (u w v : Nat) : Bool := match e u v with
  | some c => decide (c + g_dst e v w = g_dst e u w)
  | none => false
noncomputable def g_nxt (e : Nat → Nat → Option Nat) (n u w : Nat) : Option Nat := g_fst (g_nxp e u w) n
theorem g_nxp_iff {e : Nat → Nat → Option Nat} {u w v : Nat} : g_nxp e u w v = true ↔ ∃ c, e u v = some c ∧ c + g_dst e v w = g_dst e u w := by
  unfold g_nxp
  cases h : e u v with
  | none => simp
  | some c => simp
theorem g_nxt_self {e : Nat → Nat → Option Nat} {n : Nat} (he : g_ok e n) (u : Nat) : g_nxt e n u u = none := by
  rw [g_nxt, g_fst_none]
  intro i _
  cases hp : g_nxp e u u i with
  | false => rfl
  | true =>
    obtain ⟨c, h1, h2⟩ := g_nxp_iff.mp hp
    have := he.2.1 u i c h1
    rw [g_dst_self] at h2
    omega
theorem g_nxt_some {e : Nat → Nat → Option Nat} {n : Nat} (he : g_ok e n) {u w v : Nat} (h : g_nxt e n u w = some v) : v < n ∧ g_rch e v w ∧ g_rch e u w ∧ u ≠ w ∧ ∃ c, e u v = some c ∧ c + g_dst e v w = g_dst e u w := by
  have h0 := g_fst_some.mp h
  obtain ⟨c, h1, h2⟩ := g_nxp_iff.mp h0.2.1
  have hc := he.2.1 u v c h1
  have hne : u ≠ w := by
    rintro rfl
    rw [g_nxt_self he] at h; cases h
  have hv : g_rch e v w := by
    rcases g_dst_cases he (w := w) hc.2.2.2 with q | q
    · exact q.1
    · rcases g_dst_cases he (w := w) hc.2.2.1 with z | z <;> omega
  exact ⟨h0.1, hv, g_rch_edge h1 hv, hne, c, h1, h2⟩
theorem g_nxt_none {e : Nat → Nat → Option Nat} {n : Nat} (he : g_ok e n) {u w : Nat} (hne : u ≠ w) : g_nxt e n u w = none ↔ ¬ g_rch e u w := by
  constructor
  · intro h hu
    obtain ⟨v, c, h1, h2, h3⟩ := g_dst_step hu hne
    have := g_fst_none.mp h v (he.2.1 u v c h1).2.2.2
    rw [g_nxp_iff.mpr ⟨c, h1, by omega⟩] at this
    cases this
  · intro h
    cases hn : g_nxt e n u w with
    | none => rfl
    | some v => exact absurd (g_nxt_some he hn).2.2.1 h
theorem g_nxt_dst {e : Nat → Nat → Option Nat} {n : Nat} (he : g_ok e n) {u w v : Nat} (h : g_nxt e n u w = some v) : g_dst e v w < g_dst e u w := by
  obtain ⟨_, _, _, _, c, h1, h2⟩ := g_nxt_some he h
  have := he.2.1 u v c h1
  omega
theorem g_nxt_rk {e : Nat → Nat → Option Nat} {n : Nat} (he : g_ok e n) {u w v : Nat} (h : g_nxt e n u w = some v) : g_rk e n v w < g_rk e n u w :=
  g_rk_lt (g_nxt_some he h).1 (g_nxt_dst he h)
/-- walks whose inner nodes are below b -/
def g_wb (e : Nat → Nat → Option Nat) (b : Nat) : Nat → Nat → Nat → Nat → Prop
  | 0, u, w, d => u = w ∧ d = 0
  | k + 1, u, w, d => ∃ v c d', e u v = some c ∧ d = c + d' ∧ ((v = w ∧ d' = 0) ∨ (v < b ∧ g_wb e b k v w d'))
theorem g_wb_of {e : Nat → Nat → Option Nat} {n : Nat} (he : g_ok e n) : ∀ (k u w d : Nat), g_wk e k u w d → g_wb e n k u w d
  | 0, _, _, _, h => h
  | k + 1, u, w, d, ⟨v, c, d', h1, h2, h3⟩ => ⟨v, c, d', h1, h3, Or.inr ⟨(he.2.1 u v c h1).2.2.2, g_wb_of he k v w d' h2⟩⟩
/-- a walk with inner nodes up to b: without b, or to b and on from b -/
theorem g_wb_split {e : Nat → Nat → Option Nat} {b : Nat} : ∀ (k u w d : Nat), g_wb e (b + 1) k u w d → (∃ k', g_wb e b k' u w d) ∨ ∃ d1 d2 k1 k2, g_wb e b k1 u b d1 ∧ g_wb e b k2 b w d2 ∧ d1 + d2 ≤ d
  | 0, u, w, d, h => Or.inl ⟨0, h⟩
  | k + 1, u, w, d, ⟨v, c, d', h1, h3, h⟩ => by
    rcases h with ⟨rfl, rfl⟩ | ⟨hv, h2⟩
    · exact Or.inl ⟨1, v, c, 0, h1, h3, Or.inl ⟨rfl, rfl⟩⟩
    · rcases g_wb_split k v w d' h2 with ⟨k', h4⟩ | ⟨d1, d2, k1, k2, h4, h5, h6⟩
      · by_cases hb : v = b
        · subst hb
          exact Or.inr ⟨c, d', 1, k', ⟨v, c, 0, h1, rfl, Or.inl ⟨rfl, rfl⟩⟩, h4, by omega⟩
        · exact Or.inl ⟨k' + 1, v, c, d', h1, h3, Or.inr ⟨by omega, h4⟩⟩
      · by_cases hb : v = b
        · subst hb
          exact Or.inr ⟨c, d2, 1, k2, ⟨v, c, 0, h1, rfl, Or.inl ⟨rfl, rfl⟩⟩, h5, by omega⟩
        · exact Or.inr ⟨c + d1, d2, k1 + 1, k2, ⟨v, c, d1, h1, rfl, Or.inr ⟨by omega, h4⟩⟩, h5, by omega⟩
theorem g_wk_app {e : Nat → Nat → Option Nat} : ∀ (k u v d : Nat) {k' w d' : Nat}, g_wk e k u v d → g_wk e k' v w d' → ∃ k2, g_wk e k2 u w (d + d')
  | 0, u, v, d, k', w, d', ⟨h1, h2⟩, h => by subst h1; subst h2; exact ⟨k', by simpa using h⟩
  | k + 1, u, v, d, k', w, d', ⟨x, c, y, h1, h2, h3⟩, h => by
    obtain ⟨k2, h4⟩ := g_wk_app k x v y h2 h
    exact ⟨k2 + 1, x, c, y + d', h1, h4, by omega⟩
/-- what all pairs' sums say, inner nodes below b counted -/
def g_fw (e : Nat → Nat → Option Nat) (b : Nat) (F : Nat → Nat → Nat) : Prop :=
  (∀ u, u < 8 → F u u = 0) ∧ (∀ u w, u < 8 → w < 8 → F u w ≤ 9999 ∧ (F u w < 9999 → ∃ k, g_wk e k u w (F u w))) ∧ ∀ u w k d, u < 8 → w < 8 → g_wb e b k u w d → F u w ≤ d
theorem g_fw_step {e : Nat → Nat → Option Nat} {b : Nat} (hb : b < 8) {F G : Nat → Nat → Nat} (h : g_fw e b F) (hG : ∀ u w, u < 8 → w < 8 → G u w = min (F u b + F b w) (F u w)) : g_fw e (b + 1) G := by
  obtain ⟨h1, h2, h3⟩ := h
  refine ⟨fun u hu => ?_, fun u w hu hw => ?_, fun u w k d hu hw hk => ?_⟩
  · rw [hG u u hu hu, h1 u hu]
    exact Nat.min_eq_right (Nat.zero_le _)
  · have a := h2 u w hu hw
    refine ⟨by rw [hG u w hu hw]; omega, fun hlt => ?_⟩
    rw [hG u w hu hw] at hlt ⊢
    by_cases hc : F u b + F b w < F u w
    · rw [Nat.min_eq_left (by omega)] at hlt ⊢
      obtain ⟨k1, w1⟩ := (h2 u b hu hb).2 (by omega)
      obtain ⟨k2, w2⟩ := (h2 b w hb hw).2 (by omega)
      exact g_wk_app k1 u b _ w1 w2
    · rw [Nat.min_eq_right (by omega)] at hlt ⊢
      exact a.2 hlt
  · rw [hG u w hu hw]
    rcases g_wb_split k u w d hk with ⟨k', h4⟩ | ⟨d1, d2, k1, k2, h4, h5, h6⟩
    · have := h3 u w k' d hu hw h4
      omega
    · have a := h3 u b k1 d1 hu hb h4
      have c := h3 b w k2 d2 hb hw h5
      omega
theorem g_fw_end {e : Nat → Nat → Option Nat} {n : Nat} (he : g_ok e n) {F : Nat → Nat → Nat} (h : g_fw e n F) {u w : Nat} (hu : u < n) (hw : w < n) : (g_rch e u w ∧ F u w = g_dst e u w ∧ F u w ≤ 63) ∨ (¬ g_rch e u w ∧ F u w = 9999) := by
  have h8 := he.1
  obtain ⟨h1, h2, h3⟩ := h
  have a := h2 u w (by omega) (by omega)
  by_cases hr : g_rch e u w
  · obtain ⟨k, hk⟩ := g_dst_wk hr
    have b := h3 u w k _ (by omega) (by omega) (g_wb_of he k u w _ hk)
    have c := g_dst_63 he hu hr
    obtain ⟨k2, hk2⟩ := a.2 (by omega)
    have d := g_dst_le hk2
    exact Or.inl ⟨hr, by omega, by omega⟩
  · refine Or.inr ⟨hr, ?_⟩
    by_cases hlt : F u w < 9999
    · obtain ⟨k2, hk2⟩ := a.2 hlt
      exact absurd ⟨_, k2, hk2⟩ hr
    · omega
