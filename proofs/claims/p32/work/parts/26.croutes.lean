/-! ===== the class's measure: rounds over all links ===== -/
def g_bf (e : Nat → Nat → Option Nat) (n w r : Nat) (D : Nat → Nat) : Prop := (∀ u, u < n → g_dst e u w ≤ D u ∧ D u ≤ 1000) ∧ ∀ u, u < n → g_rch e u w → g_rk e n u w ≤ r → D u = g_dst e u w
theorem g_bf_0 {e : Nat → Nat → Option Nat} {n w : Nat} (he : g_ok e n) (hw : w < n) : g_bf e n w 0 (fun u => if u = w then 0 else 1000) := by
  refine ⟨fun u hu => ?_, fun u hu hr hk => ?_⟩
  · dsimp only
    by_cases h : u = w
    · subst h
      rw [if_pos rfl, g_dst_self]; omega
    · rw [if_neg h]
      rcases g_dst_cases he (w := w) hu with q | q <;> omega
  · dsimp only
    by_cases h : u = w
    · subst h
      rw [if_pos rfl, g_dst_self]
    · exfalso
      obtain ⟨v, c, h1, h2, h3⟩ := g_dst_step hr h
      have hc := he.2.1 u v c h1
      have := g_rk_lt (e := e) (n := n) (u := u) (v := v) (w := w) hc.2.2.2 (by omega)
      omega
/-- within a round, links below l done: D0 is what the round began with -/
def g_bl (n l : Nat) (lo hi c : Nat → Nat) (S : Nat) (e : Nat → Nat → Option Nat) (w r : Nat) (D : Nat → Nat) : Prop := g_bf e n w r D ∧ ∀ j, j < l → S.testBit j = true → (g_rch e (hi j) w → g_rk e n (hi j) w ≤ r → D (lo j) ≤ g_dst e (hi j) w + c j) ∧ (g_rch e (lo j) w → g_rk e n (lo j) w ≤ r → D (hi j) ≤ g_dst e (lo j) w + c j)
/-- one shortening keeps the lower bound and what is reached already -/
theorem g_bf_sh {e : Nat → Nat → Option Nat} {n w r u v c : Nat} (hu : u < n) (hv : v < n) (hE : e u v = some c) {D D' : Nat → Nat} (h : g_bf e n w r D) (hD : ∀ x, D' x = if x = u then min (D u) (D v + c) else D x) : g_bf e n w r D' := by
  have a := h.1 u hu
  have b := h.1 v hv
  have lowu : g_dst e u w ≤ D v + c ∨ D u ≤ D v + c := by
    by_cases hr : g_rch e v w
    · have := g_dst_edge hE hr
      omega
    · have := g_dst_no hr
      omega
  refine ⟨fun x hx => ?_, fun x hx hr hk => ?_⟩
  · rw [hD]
    by_cases hxu : x = u
    · subst hxu; rw [if_pos rfl]; omega
    · rw [if_neg hxu]; exact h.1 x hx
  · rw [hD]
    by_cases hxu : x = u
    · subst hxu
      rw [if_pos rfl]
      have := h.2 x hx hr hk
      omega
    · rw [if_neg hxu]; exact h.2 x hx hr hk
theorem g_bl_step {n ln l : Nat} {lo hi c : Nat → Nat} {S w r : Nat} (hN : g_net n ln lo hi) (hl : l < ln) (hbit : S.testBit l = true) {D D1 D2 : Nat → Nat} (h : g_bl n l lo hi c S (g_e ln lo hi c S) w r D)
    (h1 : ∀ x, D1 x = if x = lo l then min (D (lo l)) (D (hi l) + c l) else D x) (h2 : ∀ x, D2 x = if x = hi l then min (D1 (hi l)) (D1 (lo l) + c l) else D1 x) : g_bl n (l + 1) lo hi c S (g_e ln lo hi c S) w r D2 := by
  have hb := hN.2.2.2.1 l hl
  have hlk : g_lk ln lo hi (lo l) (hi l) = some l := (g_lk_some hN).mpr ⟨hl, Or.inl ⟨rfl, rfl⟩⟩
  have hlk2 : g_lk ln lo hi (hi l) (lo l) = some l := (g_lk_some hN).mpr ⟨hl, Or.inr ⟨rfl, rfl⟩⟩
  have e1 : g_e ln lo hi c S (lo l) (hi l) = some (c l) := g_e_some.mpr ⟨l, hlk, hbit, rfl⟩
  have e2 : g_e ln lo hi c S (hi l) (lo l) = some (c l) := g_e_some.mpr ⟨l, hlk2, hbit, rfl⟩
  have b1 := g_bf_sh (by omega) (by omega) e1 h.1 h1
  have b2 := g_bf_sh (by omega) (by omega) e2 b1 h2
  have le1 : ∀ x, D1 x ≤ D x := fun x => by
    rw [h1]
    by_cases hx : x = lo l
    · subst hx; rw [if_pos rfl]; omega
    · rw [if_neg hx]; omega
  have le2 : ∀ x, D2 x ≤ D1 x := fun x => by
    rw [h2]
    by_cases hx : x = hi l
    · subst hx; rw [if_pos rfl]; omega
    · rw [if_neg hx]; omega
  refine ⟨b2, fun j hj hjb => ?_⟩
  by_cases hjl : j = l
  · subst hjl
    refine ⟨fun hr hk => ?_, fun hr hk => ?_⟩
    · have a := h.1.2 (hi j) (by omega) hr hk
      have b := h1 (lo j)
      rw [if_pos rfl] at b
      have := le2 (lo j)
      omega
    · have a := b1.2 (lo j) (by omega) hr hk
      have b := h2 (hi j)
      rw [if_pos rfl] at b
      omega
  · obtain ⟨q1, q2⟩ := h.2 j (by omega) hjb
    refine ⟨fun hr hk => ?_, fun hr hk => ?_⟩
    · have := q1 hr hk; have := le1 (lo j); have := le2 (lo j); omega
    · have := q2 hr hk; have := le1 (hi j); have := le2 (hi j); omega
theorem g_bl_skip {n l : Nat} {lo hi c : Nat → Nat} {S w r : Nat} {e : Nat → Nat → Option Nat} {D : Nat → Nat} (hbit : S.testBit l = false) (h : g_bl n l lo hi c S e w r D) : g_bl n (l + 1) lo hi c S e w r D := by
  refine ⟨h.1, fun j hj hjb => ?_⟩
  by_cases hjl : j = l
  · subst hjl; rw [hbit] at hjb; cases hjb
  · exact h.2 j (by omega) hjb
theorem g_bl_end {n ln : Nat} {lo hi c : Nat → Nat} {S w r : Nat} (hN : g_net n ln lo hi) (hc : g_cs ln c) {D : Nat → Nat} (h : g_bl n ln lo hi c S (g_e ln lo hi c S) w r D) : g_bf (g_e ln lo hi c S) n w (r + 1) D := by
  have he := g_e_ok hN hc S
  refine ⟨h.1.1, fun u hu hr hk => ?_⟩
  by_cases hw : u = w
  · subst hw
    refine h.1.2 u hu hr ?_
    have : g_rk (g_e ln lo hi c S) n u u = 0 := by
      unfold g_rk
      have := g_cnt_mono (p := fun x => decide (g_dst (g_e ln lo hi c S) x u < g_dst (g_e ln lo hi c S) u u)) (q := fun _ => false) (n := n) (fun i _ hp => by rw [g_dst_self] at hp; simp at hp)
      have h0 : ∀ n, g_cnt (fun _ => false) n = 0 := by
        intro n
        induction n with
        | zero => rfl
        | succ n ih => simp [g_cnt, ih]
      rw [h0] at this
      omega
    omega
  · obtain ⟨v, cc, h1, h2, h3⟩ := g_dst_step hr hw
    have hcc := he.2.1 u v cc h1
    have hk2 := g_rk_lt (e := g_e ln lo hi c S) (n := n) (u := u) (v := v) (w := w) hcc.2.2.2 (by omega)
    obtain ⟨l, hl1, hl2, hl3⟩ := g_e_some.mp h1
    obtain ⟨hl4, hl5⟩ := (g_lk_some hN).mp hl1
    have q := h.2 l hl4 hl2
    have low := (h.1.1 u hu).1
    rcases hl5 with ⟨a, b⟩ | ⟨a, b⟩
    · rw [a, b] at q
      have := q.1 h2 (by omega)
      omega
    · rw [a, b] at q
      have := q.2 h2 (by omega)
      omega
theorem g_bf_end {e : Nat → Nat → Option Nat} {n w r : Nat} (he : g_ok e n) {D : Nat → Nat} (h : g_bf e n w r D) (hr : n ≤ r + 1) : ∀ u, u < n → D u = g_dst e u w := by
  intro u hu
  rcases g_dst_cases he (w := w) hu with ⟨q, _⟩ | ⟨q1, q2⟩
  · have := g_rk_le (e := e) (w := w) hu
    exact h.2 u hu q (by omega)
  · have := h.1 u hu
    omega
def cS (I : Nat → Nat → Int32) (D : Nat → Nat) : Prop := ∀ u, u < 8 → I 1088 u = nI (D u)
def cA (I : Nat → Nat → Int32) (A B : Nat → Option Nat) : Prop := ∀ u, u < 8 → I 1152 u = i_o (A u) ∧ I 1216 u = i_o (B u)
theorem c_startFrom {I : Nat → Nat → Int32} {L : Nat → Int64} {Q : Option Value → (Nat → Nat → Int32) → (Nat → Int64) → Prop} {w : Nat} (hw : w < 8) (K : ∀ I', Sm [1088, 1152, 1216] I I' → cS I' (fun u => if u = w then 0 else 1000) → cA I' (fun _ => none) (fun _ => none) → Q none I' L) : XS mX5_startFrom 0 [(0, .ref 16), (1, .int (nI w))] [] I L Q := by
  have key : ∀ m k, k + m = 8 → ∀ I', Sm [1088, 1152, 1216] I I' → (∀ u, u < k → I' 1088 u = nI (if u = w then 0 else 1000) ∧ I' 1152 u = -1 ∧ I' 1216 u = -1) → XS mX5_startFrom 2 [(0, .ref 16), (1, .int (nI w)), (2, .int (nI k))] [] I' L Q := by
    intro m
    induction m with
    | zero =>
      intro k hk I' hs hj
      refine bX5_startFrom_2 (fun _ => bX5_startFrom_46 (K I' hs (fun u hu => (hj u (by omega)).1) (fun u hu => (hj u (by omega)).2))) (fun h => ?_)
      exact absurd ((i_le 8 k rfl rfl (by omega) (by omega)).mpr (by omega)) h
    | succ m ih =>
      intro k hk I' hs hj
      have hvp : vp_in (nI k) 8 := vp_in_nI (by omega) (by decide)
      have go : ∀ v : Nat, v = (if k = w then 0 else 1000) → XS mX5_startFrom 25 [(0, .ref 16), (1, .int (nI w)), (2, .int (nI k))] [.int (nI v), .int (nI k), .ref 17] I' L Q := fun v hv => by
        refine bX5_startFrom_25 hvp hvp hvp ?_
        rw [nI_1, nI_clamp (by omega)]
        refine ih (k + 1) (by omega) _ (((hs.up (by simp)).up (by simp)).up (by simp)) (fun u hu => ?_)
        by_cases huk : u = k
        · subst huk
          refine ⟨?_, ?_, ?_⟩
          · rw [x_up_ne (by decide), x_up_ne (by decide), x_up_at, hv]
          · rw [x_up_ne (by decide), x_up_at]
          · rw [x_up_at]
        · have := hj u (by omega)
          refine ⟨?_, ?_, ?_⟩
          · rw [x_up_ne (by decide), x_up_ne (by decide), x_up_off huk]; exact this.1
          · rw [x_up_ne (by decide), x_up_off huk, x_up_ne (by decide)]; exact this.2.1
          · rw [x_up_off huk, x_up_ne (by decide), x_up_ne (by decide)]; exact this.2.2
      refine bX5_startFrom_2 (fun h => ?_) (fun _ => bX5_startFrom_8 (fun h => bX5_startFrom_22 ?_) (fun h => bX5_startFrom_18 ?_))
      · have := (i_le 8 k rfl rfl (by omega) (by omega)).mp h
        omega
      · rw [nI_eq (by omega) (by omega)] at h
        exact go 1000 (by rw [if_neg h])
      · rw [nI_eq (by omega) (by omega)] at h
        exact go 0 (by rw [if_pos h])
  exact bX5_startFrom_0 (key 8 0 rfl I Sm.rf (fun u hu => by omega))
theorem c_shorten {I : Nat → Nat → Int32} {L : Nat → Int64} {Q : Option Value → (Nat → Nat → Int32) → (Nat → Int64) → Prop} {u v c : Nat} {D : Nat → Nat} (hD : cS I D) (hu : u < 8) (hv : v < 8) (hc : c ≤ 9) (hb : D u ≤ 1000 ∧ D v ≤ 1000) (K : ∀ I', Sm [1088] I I' → cS I' (fun x => if x = u then min (D u) (D v + c) else D x) → Q none I' L) : XS mX5_shorten 0 [(0, .ref 16), (1, .int (nI u)), (2, .int (nI v)), (3, .int (nI c))] [] I L Q := by
  have hu' : vp_in (nI u) 8 := vp_in_nI hu (by decide)
  have hv' : vp_in (nI v) 8 := vp_in_nI hv (by decide)
  refine bX5_shorten_0 hv' hu' (fun h => bX5_shorten_31 (K I Sm.rf (fun x hx => ?_))) (fun h => bX5_shorten_17 hv' hu' (bX5_shorten_31 (K _ (Sm.rf.up (by simp)) (fun x hx => ?_))))
  · rw [nI_clamp (by omega), nI_clamp (by omega), hD u hu, hD v hv, nI_add, nI_leI (by omega) (by omega)] at h
    rw [hD x hx]
    dsimp only
    by_cases hxu : x = u
    · subst hxu; rw [if_pos rfl]; congr 1; omega
    · rw [if_neg hxu]
  · rw [nI_clamp (by omega), nI_clamp (by omega), hD u hu, hD v hv, nI_add, nI_leI (by omega) (by omega)] at h
    rw [nI_clamp (by omega), nI_clamp (by omega), hD v hv, nI_add]
    dsimp only
    by_cases hxu : x = u
    · subst hxu; rw [x_up_at, if_pos rfl]; congr 1; omega
    · rw [x_up_off hxu, if_neg hxu]; exact hD x hx
/-- v goes ahead of what was found -/
def g_bet (a : Option Nat) (v : Nat) : Bool := match a with
  | none => true
  | some y => decide (v < y)
theorem c_leadOn {I : Nat → Nat → Int32} {L : Nat → Int64} {Q : Option Value → (Nat → Nat → Int32) → (Nat → Int64) → Prop} {u v c l : Nat} {D : Nat → Nat} {A B : Nat → Option Nat} (hD : cS I D) (hA : cA I A B) (hAb : ∀ x y, A x = some y → y < 8) (hu : u < 8) (hv : v < 8) (hc : c ≤ 9) (hb : D u ≤ 1000 ∧ D v ≤ 1000)
    (K : ∀ I', Sm [1152, 1216] I I' → cA I' (fun x => if x = u ∧ D v + c = D u ∧ g_bet (A u) v = true then some v else A x) (fun x => if x = u ∧ D v + c = D u ∧ g_bet (A u) v = true then some l else B x) → Q none I' L) : XS mX5_leadOn 0 [(0, .ref 16), (1, .int (nI u)), (2, .int (nI v)), (3, .int (nI l)), (4, .int (nI c))] [] I L Q := by
  have hu' : vp_in (nI u) 8 := vp_in_nI hu (by decide)
  have hv' : vp_in (nI v) 8 := vp_in_nI hv (by decide)
  have no : ¬ (D v + c = D u ∧ g_bet (A u) v = true) → XS mX5_leadOn 64 [] [] I L Q := fun hno => by
    refine bX5_leadOn_64 (K I Sm.rf (fun x hx => ?_))
    have : ¬ (x = u ∧ D v + c = D u ∧ g_bet (A u) v = true) := fun q => hno q.2
    dsimp only
    rw [if_neg this, if_neg this]
    exact hA x hx
  have yes : (D v + c = D u ∧ g_bet (A u) v = true) → XS mX5_leadOn 50 [(0, .ref 16), (1, .int (nI u)), (2, .int (nI v)), (3, .int (nI l))] [] I L Q := fun hy => by
    refine bX5_leadOn_50 hu' hu' (bX5_leadOn_64 (K _ ((Sm.rf.up (by simp)).up (by simp)) (fun x hx => ?_)))
    rw [nI_clamp (by omega)]
    by_cases hxu : x = u
    · subst hxu
      dsimp only
      rw [if_pos ⟨rfl, hy⟩, if_pos ⟨rfl, hy⟩]
      exact ⟨by rw [x_up_ne (by decide), x_up_at]; rfl, by rw [x_up_at]; rfl⟩
    · have : ¬ (x = u ∧ D v + c = D u ∧ g_bet (A u) v = true) := fun q => hxu q.1
      dsimp only
      rw [if_neg this, if_neg this]
      exact ⟨by rw [x_up_ne (by decide), x_up_off hxu]; exact (hA x hx).1, by rw [x_up_off hxu, x_up_ne (by decide)]; exact (hA x hx).2⟩
  refine bX5_leadOn_0 hv' hu' (fun h => bX5_leadOn_22 (bX5_leadOn_23 (fun _ => ?_) (fun h2 => absurd rfl h2))) (fun h => bX5_leadOn_18 (bX5_leadOn_23 (fun h2 => absurd h2 (by decide)) (fun _ => bX5_leadOn_30 hu' (fun h3 => ?_) (fun h3 => bX5_leadOn_40 hu' (fun h4 => ?_) (fun h4 => ?_)))))
  · rw [nI_clamp (by omega), nI_clamp (by omega), hD u hu, hD v hv, nI_add, nI_eq (by omega) (by omega)] at h
    exact no (fun q => h q.1)
  all_goals
    rw [nI_clamp (by omega), nI_clamp (by omega), hD u hu, hD v hv, nI_add, nI_eq (by omega) (by omega)] at h
    rw [nI_clamp (by omega), (hA u hu).1] at h3
  · cases hau : A u with
    | none => exact yes ⟨h, by rw [hau]; rfl⟩
    | some y =>
      rw [hau] at h3
      exact absurd h3 (i_m1ne (by have := hAb u y hau; omega))
  · cases hau : A u with
    | none => rw [hau] at h3; exact absurd rfl h3
    | some y =>
      have hy8 := hAb u y hau
      rw [nI_clamp (by omega), (hA u hu).1, hau] at h4
      have h5 : y ≤ v := (nI_leI (by omega) (by omega)).mp h4
      exact no (fun q => by have := q.2; rw [hau] at this; simp [g_bet] at this; omega)
  · cases hau : A u with
    | none => rw [hau] at h3; exact absurd rfl h3
    | some y =>
      have hy8 := hAb u y hau
      rw [nI_clamp (by omega), (hA u hu).1, hau] at h4
      have h5 : ¬ y ≤ v := fun q => h4 ((nI_leI (by omega) (by omega)).mpr q)
      exact yes ⟨h, by rw [hau]; simp [g_bet]; omega⟩
