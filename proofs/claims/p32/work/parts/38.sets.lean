/-! ===== sets as numbers, ways that end, orders ===== -/
def g_en (F : Nat → Option Nat) (w : Nat) : Nat → Nat → Bool
  | 0, x => decide (x = w)
  | k + 1, x => decide (x = w) || (match F x with
    | none => true
    | some y => g_en F w k y)
theorem g_en_closed {F : Nat → Option Nat} {w : Nat} {M : Nat → Bool} (h : ∀ y, M y = true → y ≠ w ∧ ∃ z, F y = some z ∧ M z = true) : ∀ k x, M x = true → g_en F w k x = false := by
  intro k
  induction k with
  | zero => intro x hx; simp [g_en, (h x hx).1]
  | succ k ih =>
    intro x hx
    obtain ⟨h1, z, h2, h3⟩ := h x hx
    simp [g_en, h1, h2, ih z h3]
theorem g_en_run {F : Nat → Option Nat} {w n : Nat} (hF : ∀ u v, F u = some v → v < n) : ∀ fuel (M : Nat → Bool) x, x < n → g_cnt (fun y => !M y) n ≤ fuel → (∀ y, M y = true → y ≠ w ∧ ∃ z, F y = some z ∧ (M z = true ∨ z = x)) → g_en F w fuel x = true ∨ ∀ k, g_en F w k x = false := by
  intro fuel
  induction fuel with
  | zero =>
    intro M x hx hc h
    cases hm : M x with
    | true =>
      right
      exact fun k => g_en_closed (M := M) (fun y hy => by
        obtain ⟨a, z, b, c⟩ := h y hy
        rcases c with c | rfl
        · exact ⟨a, z, b, c⟩
        · exact ⟨a, z, b, hm⟩) k x hm
    | false =>
      exfalso
      have : g_cnt (fun _ => false) n < g_cnt (fun y => !M y) n := g_cnt_lt (fun i _ q => by cases q) hx rfl (by simp [hm])
      omega
  | succ f ih =>
    intro M x hx hc h
    cases hm : M x with
    | true =>
      right
      exact fun k => g_en_closed (M := M) (fun y hy => by
        obtain ⟨a, z, b, c⟩ := h y hy
        rcases c with c | rfl
        · exact ⟨a, z, b, c⟩
        · exact ⟨a, z, b, hm⟩) k x hm
    | false =>
      by_cases hxw : x = w
      · left; simp [g_en, hxw]
      · cases hfx : F x with
        | none => left; simp [g_en, hfx]
        | some z =>
          have hc' : g_cnt (fun y => !(M y || decide (y = x))) n ≤ f := by
            have : g_cnt (fun y => !(M y || decide (y = x))) n < g_cnt (fun y => !M y) n := g_cnt_lt (fun i _ q => by simp at q ⊢; exact q.1) hx (by simp) (by simp [hm])
            omega
          rcases ih (fun y => M y || decide (y = x)) z (hF x z hfx) hc' (fun y hy => by
            simp only [Bool.or_eq_true, decide_eq_true_eq] at hy
            rcases hy with hy | rfl
            · obtain ⟨a, z', b, c⟩ := h y hy
              refine ⟨a, z', b, Or.inl ?_⟩
              rcases c with c | rfl
              · simp [c]
              · simp
            · exact ⟨hxw, z, hfx, Or.inr rfl⟩) with q | q
          · left; simp [g_en, hxw, hfx, q]
          · right
            intro k
            cases k with
            | zero => simp [g_en, hxw]
            | succ k => simp [g_en, hxw, hfx, q k]
def g_ends (F : Nat → Option Nat) (w x : Nat) : Prop := ∃ k, g_en F w k x = true
theorem g_en_n {F : Nat → Option Nat} {w n x : Nat} (hF : ∀ u v, F u = some v → v < n) (hx : x < n) : g_en F w n x = true ↔ g_ends F w x := by
  constructor
  · exact fun h => ⟨n, h⟩
  · rintro ⟨k, hk⟩
    rcases g_en_run (w := w) hF n (fun _ => false) x hx (g_cnt_le _ _) (fun y hy => by cases hy) with q | q
    · exact q
    · rw [q k] at hk; cases hk
theorem g_ends_step {F : Nat → Option Nat} {w x y : Nat} (hxw : x ≠ w) (h : F x = some y) : g_ends F w x ↔ g_ends F w y := by
  constructor
  · rintro ⟨k, hk⟩
    cases k with
    | zero => simp [g_en, hxw] at hk
    | succ k => exact ⟨k, by simpa [g_en, hxw, h] using hk⟩
  · rintro ⟨k, hk⟩
    exact ⟨k + 1, by simp [g_en, h, hk]⟩
/-- a set as a number -/
def g_mk (p : Nat → Bool) : Nat → Nat
  | 0 => 0
  | n + 1 => if p n = true then g_mk p n ||| 2 ^ n else g_mk p n
theorem g_mk_succ (p : Nat → Bool) (n : Nat) : g_mk p (n + 1) = if p n = true then g_mk p n ||| 2 ^ n else g_mk p n := rfl
theorem g_or_bit (a v i : Nat) : (a ||| 2 ^ v).testBit i = (a.testBit i || decide (v = i)) := by
  rw [Nat.testBit_or, Nat.testBit_two_pow]
theorem g_or_lt {a v n : Nat} (ha : a < 2 ^ n) (hv : v < n) : a ||| 2 ^ v < 2 ^ n := Nat.or_lt_two_pow ha (Nat.pow_lt_pow_right (by omega) hv)
theorem g_mk_bit (p : Nat → Bool) : ∀ n i, (g_mk p n).testBit i = (decide (i < n) && p i) := by
  intro n
  induction n with
  | zero => intro i; simp [g_mk]
  | succ n ih =>
    intro i
    have e : (g_mk p (n + 1)).testBit i = ((g_mk p n).testBit i || (p n && decide (n = i))) := by
      rw [g_mk_succ]
      by_cases hp : p n = true
      · rw [if_pos hp, g_or_bit, hp]; simp
      · rw [if_neg hp]; simp at hp; simp [hp]
    rw [e, ih]
    by_cases hin : i = n
    · subst hin; simp
    · have h1 : decide (n = i) = false := by simp; omega
      rw [h1]
      by_cases h2 : i < n
      · simp [h2, show i < n + 1 by omega]
      · simp [h2, show ¬ i < n + 1 by omega]
theorem g_mk_lt (p : Nat → Bool) (n : Nat) : g_mk p n < 2 ^ n := by
  induction n with
  | zero => simp [g_mk]
  | succ n ih =>
    have h2 : 2 ^ n < 2 ^ (n + 1) := Nat.pow_lt_pow_right (by omega) (by omega)
    unfold g_mk
    split
    · exact g_or_lt (by omega) (by omega)
    · omega
theorem g_mk_0 {p : Nat → Bool} {n : Nat} : g_mk p n = 0 ↔ ∀ i, i < n → p i = false := by
  constructor
  · intro h i hi
    have := g_mk_bit p n i
    rw [h] at this
    simpa [hi] using this.symm
  · intro h
    apply Nat.eq_of_testBit_eq
    intro i
    rw [g_mk_bit]
    by_cases hi : i < n
    · simp [h i hi]
    · simp [hi]
theorem g_mk_congr {p q : Nat → Bool} {n : Nat} (h : ∀ i, i < n → p i = q i) : g_mk p n = g_mk q n := by
  apply Nat.eq_of_testBit_eq
  intro i
  rw [g_mk_bit, g_mk_bit]
  by_cases hi : i < n
  · rw [h i hi]
  · simp [hi]
theorem g_2n {n : Nat} (h : n ≤ 8) : 2 ^ n ≤ 256 := by
  have := Nat.pow_le_pow_right (n := 2) (by omega) h
  omega
/-- where a letter goes, those in L having learnt -/
def g_FL (nxU nxS : Nat → Nat → Option Nat) (L w u : Nat) : Option Nat := if L.testBit u = true then nxU u w else nxS u w
def g_rb (nxU nxS : Nat → Nat → Option Nat) (n L w u : Nat) : Bool := !g_en (g_FL nxU nxS L w) w n u
def g_rm (nxU nxS : Nat → Nat → Option Nat) (n L w : Nat) : Nat := g_mk (g_rb nxU nxS n L w) n
def g_safe (nxU nxS : Nat → Nat → Option Nat) (n L : Nat) : Bool := (g_fst (fun w => decide (g_rm nxU nxS n L w ≠ 0)) n).isNone
theorem g_safe_iff {nxU nxS : Nat → Nat → Option Nat} {n L : Nat} : g_safe nxU nxS n L = true ↔ ∀ w, w < n → g_rm nxU nxS n L w = 0 := by
  unfold g_safe
  rw [Option.isNone_iff_eq_none, g_fst_none]
  simp
/-- orders -/
def g_cn (sf : Nat → Bool) (n B : Nat) : Nat → Nat → Prop
  | 0, x => x = B
  | k + 1, x => ∃ v, v < n ∧ B.testBit v = true ∧ x.testBit v = false ∧ sf (x ||| 2 ^ v) = true ∧ g_cn sf n B k (x ||| 2 ^ v)
def g_can (sf : Nat → Bool) (n B x : Nat) : Prop := ∃ k, g_cn sf n B k x
theorem g_can_iff {sf : Nat → Bool} {n B x : Nat} : g_can sf n B x ↔ x = B ∨ ∃ v, v < n ∧ B.testBit v = true ∧ x.testBit v = false ∧ sf (x ||| 2 ^ v) = true ∧ g_can sf n B (x ||| 2 ^ v) := by
  constructor
  · rintro ⟨k, hk⟩
    cases k with
    | zero => exact Or.inl hk
    | succ k =>
      obtain ⟨v, h1, h2, h3, h4, h5⟩ := hk
      exact Or.inr ⟨v, h1, h2, h3, h4, k, h5⟩
  · rintro (h | ⟨v, h1, h2, h3, h4, k, h5⟩)
    · exact ⟨0, h⟩
    · exact ⟨k + 1, v, h1, h2, h3, h4, h5⟩
/-- v may be the next to learn -/
def g_nl1 (sf : Nat → Bool) (n B x v : Nat) : Prop := v < n ∧ B.testBit v = true ∧ x.testBit v = false ∧ sf (x ||| 2 ^ v) = true ∧ g_can sf n B (x ||| 2 ^ v)
/-- the order: the first d to learn, and the sets on the way -/
def g_ord (sf : Nat → Bool) (n B d : Nat) (o S : Nat → Nat) : Prop := S 0 = 0 ∧ ∀ i, i < d → S (i + 1) = S i ||| 2 ^ (o i) ∧ g_nl1 sf n B (S i) (o i) ∧ ∀ v, v < o i → ¬ g_nl1 sf n B (S i) v
theorem g_ord_uni {sf : Nat → Bool} {n B d d' : Nat} {o o' S S' : Nat → Nat} (h : g_ord sf n B d o S) (h' : g_ord sf n B d' o' S') : ∀ i, i ≤ d → i ≤ d' → S i = S' i ∧ (i < d → i < d' → o i = o' i) := by
  intro i
  induction i with
  | zero =>
    intro _ _
    refine ⟨by rw [h.1, h'.1], fun h1 h2 => ?_⟩
    obtain ⟨_, a, b⟩ := h.2 0 h1
    obtain ⟨_, a', b'⟩ := h'.2 0 h2
    rw [h.1] at a b
    rw [h'.1] at a' b'
    rcases Nat.lt_trichotomy (o 0) (o' 0) with q | q | q
    · exact absurd a (b' _ q)
    · exact q
    · exact absurd a' (b _ q)
  | succ i ih =>
    intro hd hd'
    obtain ⟨e1, e2⟩ := ih (by omega) (by omega)
    have e : S (i + 1) = S' (i + 1) := by
      rw [(h.2 i (by omega)).1, (h'.2 i (by omega)).1, e1, e2 (by omega) (by omega)]
    refine ⟨e, fun h1 h2 => ?_⟩
    obtain ⟨_, a, b⟩ := h.2 (i + 1) h1
    obtain ⟨_, a', b'⟩ := h'.2 (i + 1) h2
    rw [e] at a b
    rcases Nat.lt_trichotomy (o (i + 1)) (o' (i + 1)) with q | q | q
    · exact absurd a (b' _ q)
    · exact q
    · exact absurd a' (b _ q)
theorem g_cnt_or {x v n : Nat} (hv : v < n) (hx : x.testBit v = false) : g_cnt (fun i => (x ||| 2 ^ v).testBit i) n = g_cnt (fun i => x.testBit i) n + 1 := by
  induction n with
  | zero => omega
  | succ n ih =>
    unfold g_cnt
    by_cases hvn : v = n
    · subst hvn
      have e1 : (x ||| 2 ^ v).testBit v = true := by rw [g_or_bit]; simp
      have e2 : g_cnt (fun i => (x ||| 2 ^ v).testBit i) v = g_cnt (fun i => x.testBit i) v := g_cnt_congr fun i hi => by rw [g_or_bit]; simp; omega
      rw [e2]
      simp [e1, hx]
    · have e1 : (x ||| 2 ^ v).testBit n = x.testBit n := by rw [g_or_bit]; simp [hvn]
      have := ih (by omega)
      simp only [e1]
      omega
theorem g_cnt_zero (n : Nat) : g_cnt (fun i => (0 : Nat).testBit i) n = 0 := by
  induction n with
  | zero => rfl
  | succ n ih => unfold g_cnt; simp at ih ⊢; exact ih
