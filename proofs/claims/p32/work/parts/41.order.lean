/-! ===== ones, and the class's order ===== -/
def g_pc : Nat → Nat → Nat
  | 0, _ => 0
  | k + 1, x => x % 2 + g_pc k (x / 2)
theorem g_pc_low : ∀ k x, x < 2 ^ k → 0 < x → g_pc k (x &&& (x - 1)) + 1 = g_pc k x := by
  intro k
  induction k with
  | zero => intro x h1 h2; simp at h1; omega
  | succ k ih =>
    intro x h1 h2
    have hd : (x &&& (x - 1)) / 2 = (x / 2) &&& ((x - 1) / 2) := by
      apply Nat.eq_of_testBit_eq
      intro i
      rw [← Nat.testBit_succ, Nat.testBit_and, Nat.testBit_and, Nat.testBit_succ, Nat.testBit_succ]
    have hm : (x &&& (x - 1)) % 2 = 0 := by
      have : (x &&& (x - 1)).testBit 0 = false := by
        rw [Nat.testBit_and, Nat.testBit_zero, Nat.testBit_zero]
        have : x % 2 = 0 ∨ (x - 1) % 2 = 0 := by omega
        rcases this with q | q <;> simp [q]
      rw [Nat.testBit_zero, decide_eq_false_iff_not] at this
      omega
    show (x &&& (x - 1)) % 2 + g_pc k ((x &&& (x - 1)) / 2) + 1 = x % 2 + g_pc k (x / 2)
    rw [hm, hd]
    by_cases ho : x % 2 = 1
    · rw [show (x - 1) / 2 = x / 2 by omega, Nat.and_self, ho]; omega
    · rw [show (x - 1) / 2 = x / 2 - 1 by omega]
      have := ih (x / 2) (by rw [Nat.pow_succ] at h1; omega) (by omega)
      omega
theorem g_pc_0 : ∀ k, g_pc k 0 = 0 := by
  intro k
  induction k with
  | zero => rfl
  | succ k ih => show 0 % 2 + g_pc k (0 / 2) = 0; simp [ih]
theorem g_cnt_front (p : Nat → Bool) : ∀ n, g_cnt p (n + 1) = (if p 0 = true then 1 else 0) + g_cnt (fun i => p (i + 1)) n := by
  intro n
  induction n with
  | zero => simp [g_cnt]
  | succ n ih =>
    have e : g_cnt p (n + 1 + 1) = g_cnt p (n + 1) + (if p (n + 1) = true then 1 else 0) := rfl
    have e2 : g_cnt (fun i => p (i + 1)) (n + 1) = g_cnt (fun i => p (i + 1)) n + (if p (n + 1) = true then 1 else 0) := rfl
    rw [e, ih, e2]; omega
theorem g_pc_cnt : ∀ n x, g_pc n x = g_cnt (fun i => x.testBit i) n := by
  intro n
  induction n with
  | zero => intro x; rfl
  | succ n ih =>
    intro x
    rw [g_cnt_front]
    have e : (fun i => x.testBit (i + 1)) = (fun i => (x / 2).testBit i) := by
      funext i; rw [Nat.testBit_succ]
    rw [e, ← ih]
    show x % 2 + g_pc n (x / 2) = _
    rw [Nat.testBit_zero]
    have : x % 2 = 0 ∨ x % 2 = 1 := by omega
    rcases this with q | q <;> simp [q]
theorem g_or_self {a v : Nat} : a ||| 2 ^ v = a ↔ a.testBit v = true := by
  constructor
  · intro h
    have := g_or_bit a v v
    rw [h] at this
    simpa using this
  · intro h
    apply Nat.eq_of_testBit_eq
    intro i
    rw [g_or_bit]
    by_cases hi : v = i
    · subst hi; simp [h]
    · simp [hi]
theorem g_wo_or {a v : Nat} (hv : v < 32) (h : a.testBit v = false) (ha : a < 2 ^ 31) : g_wo (a ||| 2 ^ v) v = a := by
  apply Nat.eq_of_testBit_eq
  intro i
  unfold g_wo
  rw [Nat.testBit_and, g_or_bit, Nat.testBit_xor, Nat.testBit_two_pow, Nat.testBit_two_pow_sub_one]
  by_cases hi : v = i
  · subst hi; simp [h, hv]
  · by_cases h32 : i < 32
    · simp [hi, h32]
    · have : a.testBit i = false := Nat.testBit_lt_two_pow (Nat.lt_of_lt_of_le ha (Nat.pow_le_pow_right (by omega) (by omega)))
      simp [hi, h32, this]
def cCl (I : Nat → Nat → Int32) (cl : Nat → Bool) : Prop := ∀ x, x < 256 → I 1472 x = i_b (cl x)
theorem c_firstToLearn {n B s : Nat} {cl : Nat → Bool} {nxU nxS : Nat → Nat → Option Nat} {I : Nat → Nat → Int32} {L : Nat → Int64} {Q : Option Value → (Nat → Nat → Int32) → (Nat → Int64) → Prop} (hn : I 64 0 = nI n) (hn8 : n ≤ 8) (hB : B < 256) (hs : s < 256) (hR : ∀ w, w < n → cRg I nxU nxS n w) (hnx : ∀ M w u v, g_FL nxU nxS M w u = some v → v < n) (hcl : cCl I cl)
    (K1 : ∀ I' cl' v, Sm [1472] I I' → cCl I' cl' → (∀ x, cl x = true → cl' x = true) → (∀ x, cl' x = true → cl x = true ∨ (g_safe nxU nxS n x = false ∧ x ≠ 0)) → v < n → B.testBit v = true → s.testBit v = false → g_safe nxU nxS n (s ||| 2 ^ v) = true → cl (s ||| 2 ^ v) = false → (∀ u, u < v → B.testBit u = true → s.testBit u = false → cl' (s ||| 2 ^ u) = true) → Q (some (.int (nI v))) I' L)
    (K0 : ∀ I' cl', Sm [1472] I I' → cCl I' cl' → (∀ x, cl x = true → cl' x = true) → (∀ x, cl' x = true → cl x = true ∨ (g_safe nxU nxS n x = false ∧ x ≠ 0)) → (∀ u, u < n → B.testBit u = true → s.testBit u = false → cl' (s ||| 2 ^ u) = true) → Q (some (.int (-1))) I' L) :
    XS mX4_firstToLearn 0 [(0, .ref 20), (1, .int (nI B)), (2, .int (nI s))] [] I L Q := by
  have hor : ∀ u, u < n → s ||| 2 ^ u < 256 := fun u hu => g_or_lt (n := 8) hs (by omega)
  have key : ∀ k u I' cl', u + k = n → Sm [1472] I I' → cCl I' cl' → (∀ x, cl x = true → cl' x = true) → (∀ x, cl' x = true → cl x = true ∨ (g_safe nxU nxS n x = false ∧ x ≠ 0)) → (∀ v, v < u → B.testBit v = true → s.testBit v = false → cl' (s ||| 2 ^ v) = true) → XS mX4_firstToLearn 2 [(0, .ref 20), (1, .int (nI B)), (2, .int (nI s)), (3, .int (nI u))] [] I' L Q := by
    intro k
    induction k with
    | zero =>
      intro u I' cl' hu hsm h1 h2 h3 h4
      refine bX4_firstToLearn_2 (fun _ => bX4_firstToLearn_70 (K0 I' cl' hsm h1 h2 h3 (fun v hv => h4 v (by omega)))) (fun h => ?_)
      rw [hsm 64 (by decide), show I 64 0 = nI n from hn, nI_leI (by omega) (by omega)] at h; omega
    | succ k ih =>
      intro u I' cl' hu hsm h1 h2 h3 h4
      have ho := hor u (by omega)
      have next : ∀ I2 cl2, Sm [1472] I I2 → cCl I2 cl2 → (∀ x, cl x = true → cl2 x = true) → (∀ x, cl2 x = true → cl x = true ∨ (g_safe nxU nxS n x = false ∧ x ≠ 0)) → (∀ v, v < u → B.testBit v = true → s.testBit v = false → cl2 (s ||| 2 ^ v) = true) → (B.testBit u = true → s.testBit u = false → cl2 (s ||| 2 ^ u) = true) → XS mX4_firstToLearn 64 [(0, .ref 20), (1, .int (nI B)), (2, .int (nI s)), (3, .int (nI u))] [] I2 L Q := by
        intro I2 cl2 a1 a2 a3 a4 a5 a6
        refine bX4_firstToLearn_64 ?_
        rw [nI_1]
        refine ih (u + 1) I2 cl2 (by omega) a1 a2 a3 a4 (fun v hv b1 b2 => ?_)
        by_cases hvu : v = u
        · subst hvu; exact a6 b1 b2
        · exact a5 v (by omega) b1 b2
      refine bX4_firstToLearn_2 (fun h => ?_) (fun _ => bX4_firstToLearn_13 (fun hb => ?_) (fun hb => ?_))
      · rw [hsm 64 (by decide), show I 64 0 = nI n from hn, nI_leI (by omega) (by omega)] at h; omega
      · rw [i_bit (by omega) (by omega), i_b1] at hb
        exact next I' cl' hsm h1 h2 h3 h4 (fun q => absurd q hb)
      · rw [i_bit (by omega) (by omega), i_b1] at hb
        rw [i_1shl (by omega), i_or]
        refine bX4_firstToLearn_29 (fun h => ?_) (fun h => bX4_firstToLearn_35 (vp_in_nI ho (by decide)) (fun hc => ?_) (fun hc => ?_))
        · rw [nI_eq (by omega) (by omega), g_or_self] at h
          exact next I' cl' hsm h1 h2 h3 h4 (fun _ q => by rw [h] at q; cases q)
        · rw [nI_clamp (by omega), show I' 1472 (s ||| 2 ^ u) = i_b (cl' (s ||| 2 ^ u)) from h1 _ ho, i_b0] at hc
          exact next I' cl' hsm h1 h2 h3 h4 (fun _ _ => by simpa using hc)
        · rw [nI_clamp (by omega), show I' 1472 (s ||| 2 ^ u) = i_b (cl' (s ||| 2 ^ u)) from h1 _ ho, i_b0] at hc
          have hsu : s.testBit u = false := by
            cases hq : s.testBit u with
            | false => rfl
            | true => exact absurd (by rw [g_or_self.mpr hq]) h
          refine bX4_firstToLearn_45 (c_hasRings (nxU := nxU) (nxS := nxS) (by rw [hsm _ (by decide)]; exact hn) hn8 (by omega) (fun w hw x hx => by rw [hsm _ (by decide), hsm _ (by decide)]; exact hR w hw x hx) (hnx _) (bX4_firstToLearn_51 (fun h0 => bX4_firstToLearn_56 (vp_in_nI ho (by decide)) ?_) (fun h0 => bX4_firstToLearn_54 ?_)))
          · rw [i_b0] at h0
            have hsf : g_safe nxU nxS n (s ||| 2 ^ u) = false := by simpa using h0
            rw [nI_clamp (by omega)]
            obtain ⟨cl2, e1, e2⟩ : ∃ cl2 : Nat → Bool, cl2 (s ||| 2 ^ u) = true ∧ ∀ x, x ≠ s ||| 2 ^ u → cl2 x = cl' x := ⟨fun x => if x = s ||| 2 ^ u then true else cl' x, by simp, fun x hx => by simp [hx]⟩
            refine next _ cl2 (hsm.up (by decide)) (fun x hx => ?_) (fun x hx => ?_) (fun x hx => ?_) (fun v hv b1 b2 => ?_) (fun _ _ => e1)
            · by_cases hxe : x = s ||| 2 ^ u
              · subst hxe
                rw [x_up_at, e1]; rfl
              · rw [x_up_off hxe, e2 x hxe]; exact h1 x hx
            · by_cases hxe : x = s ||| 2 ^ u
              · subst hxe; exact e1
              · rw [e2 x hxe]; exact h2 x hx
            · by_cases hxe : x = s ||| 2 ^ u
              · subst hxe
                refine Or.inr ⟨hsf, fun q => ?_⟩
                have := g_or_bit s u u
                rw [q] at this
                simp at this
              · rw [e2 x hxe] at hx; exact h3 x hx
            · by_cases hxe : s ||| 2 ^ v = s ||| 2 ^ u
              · rw [hxe]; exact e1
              · rw [e2 _ hxe]; exact h4 v hv b1 b2
          · rw [i_b0] at h0
            have hsf : g_safe nxU nxS n (s ||| 2 ^ u) = true := by simpa using h0
            refine K1 I' cl' u hsm h1 h2 h3 (by omega) hb hsu hsf ?_ h4
            cases hq : cl (s ||| 2 ^ u) with
            | false => rfl
            | true => rw [h2 _ hq] at hc; cases hc
  exact bX4_firstToLearn_0 (key n 0 I cl (by omega) Sm.rf hcl (fun x hx => hx) (fun x hx => Or.inl hx) (fun v hv => by omega))
