/-! ===== a letter's way: what it is ===== -/
def g_dw (u : Nat) : List (Nat × Nat) → List (Nat × Nat)
  | [] => []
  | (k, w) :: S => if k < 2 ∧ w = u then g_dw u S else (k, w) :: S
noncomputable def g_lh (n ln : Nat) (lo hi c0 c1 seen : Nat → Nat) (u k w : Nat) : Option Nat := if k = 2 then (if lo w = u ∨ hi w = u then some w else none) else g_nl ln lo hi u (g_nxt (g_e ln lo hi (if k = 0 then c0 else c1) (seen u)) n u w)
def g_er (k : Nat) : Int32 := if k = 2 then -13 else -11
def g_ot (lo hi : Nat → Nat) (l u : Nat) : Nat := if lo l = u then hi l else lo l
/-- a segment that may stand in a list -/
def g_sg (n ln : Nat) (p : Nat × Nat) : Prop := p.1 < 3 ∧ (p.1 = 2 → p.2 < ln) ∧ (p.1 < 2 → p.2 < n)
def g_fd (n ln : Nat) (lo hi c0 c1 : Nat → Nat) (S l u w : Nat) (o : Option (List (Nat × Nat))) : Prop := match o with
  | none => ∃ T kd wh, g_RP n ln lo hi c0 c1 S l u w false T kd wh
  | some F => F.length < 8 ∧ (∀ p, p ∈ F → g_sg n ln p) ∧ ∃ kd wh, g_RP n ln lo hi c0 c1 S l u w true F.length kd wh ∧ ∀ t, t < F.length → kd t = nI (F.getD t (0, 0)).1 ∧ wh t = nI (F.getD t (0, 0)).2
theorem g_list {P : Nat → Nat × Nat → Prop} : ∀ T, (∀ t, t < T → ∃ p, P t p) → ∃ F : List (Nat × Nat), F.length = T ∧ ∀ t, t < T → P t (F.getD t (0, 0)) := by
  intro T
  induction T with
  | zero => intro _; exact ⟨[], rfl, fun t ht => by omega⟩
  | succ T ih =>
    intro h
    obtain ⟨F, h1, h2⟩ := ih (fun t ht => h t (by omega))
    obtain ⟨p, hp⟩ := h T (by omega)
    refine ⟨F ++ [p], by simp [h1], fun t ht => ?_⟩
    by_cases htT : t = T
    · subst htT
      simpa [List.getD, h1] using hp
    · have := h2 t (by omega)
      have hlt : t < F.length := by omega
      simpa [List.getD, List.getElem?_append_left hlt] using this
theorem g_listx {F F' : List (Nat × Nat)} (h : F.length = F'.length) (h2 : ∀ t, t < F.length → F.getD t (0, 0) = F'.getD t (0, 0)) : F = F' := by
  apply List.ext_getElem h
  intro i h3 h4
  have := h2 i h3
  simpa [List.getD, h3, h4] using this
theorem g_memD {F : List (Nat × Nat)} {p : Nat × Nat} (h : p ∈ F) : ∃ t, t < F.length ∧ F.getD t (0, 0) = p := by
  obtain ⟨t, h1, h2⟩ := List.getElem_of_mem h
  exact ⟨t, h1, by simpa [List.getD, h1] using h2⟩
theorem g_fd_of {n ln S l u w T : Nat} {lo hi c0 c1 : Nat → Nat} {kd wh : Nat → Int32} (hN : g_net n ln lo hi) (h : g_RP n ln lo hi c0 c1 S l u w true T kd wh) : ∃ F : List (Nat × Nat), F.length = T ∧ g_fd n ln lo hi c0 c1 S l u w (some F) ∧ ∀ t, t < T → kd t = nI (F.getD t (0, 0)).1 ∧ wh t = nI (F.getD t (0, 0)).2 := by
  obtain ⟨hT, hok⟩ := g_RP_ok hN h
  obtain ⟨F, h1, h2⟩ := g_list (P := fun t p => kd t = nI p.1 ∧ wh t = nI p.2 ∧ g_sg n ln p) T (fun t ht => by
    obtain ⟨k, w', a, b, c, d, e⟩ := hok t ht
    exact ⟨(k, w'), a, b, c, d, e⟩)
  subst h1
  refine ⟨F, rfl, ⟨hT, fun p hp => ?_, kd, wh, h, fun t ht => ⟨(h2 t ht).1, (h2 t ht).2.1⟩⟩, fun t ht => ⟨(h2 t ht).1, (h2 t ht).2.1⟩⟩
  obtain ⟨t, a, b⟩ := g_memD hp
  rw [← b]
  exact (h2 t a).2.2
theorem g_fd_uni {n ln S l u w : Nat} {lo hi c0 c1 : Nat → Nat} {o o' : Option (List (Nat × Nat))} (hN : g_net n ln lo hi) (hc0 : g_cs ln c0) (h : g_fd n ln lo hi c0 c1 S l u w o) (h' : g_fd n ln lo hi c0 c1 S l u w o') : o = o' := by
  have hn8 := hN.2.1
  have hln := hN.2.2.1
  cases o with
  | none =>
    cases o' with
    | none => rfl
    | some F' =>
      obtain ⟨T, kd, wh, a⟩ := h
      obtain ⟨_, _, kd', wh', a', _⟩ := h'
      have := (g_RP_uni hN hc0 a a').1
      cases this
  | some F =>
    cases o' with
    | none =>
      obtain ⟨T, kd, wh, a⟩ := h'
      obtain ⟨_, _, kd', wh', a', _⟩ := h
      have := (g_RP_uni hN hc0 a a').1
      cases this
    | some F' =>
      obtain ⟨b1, b2, kd, wh, a, e⟩ := h
      obtain ⟨b1', b2', kd', wh', a', e'⟩ := h'
      obtain ⟨_, hs⟩ := g_RP_uni hN hc0 a a'
      obtain ⟨hT, hq⟩ := hs rfl
      congr 1
      refine g_listx hT (fun t ht => ?_)
      obtain ⟨x1, x2⟩ := e t ht
      obtain ⟨y1, y2⟩ := e' t (by omega)
      obtain ⟨z1, z2⟩ := hq t ht
      have hm : ∀ {G : List (Nat × Nat)} {i : Nat}, (∀ p, p ∈ G → g_sg n ln p) → i < G.length → (G.getD i (0, 0)).1 < 2 ^ 31 ∧ (G.getD i (0, 0)).2 < 2 ^ 31 := fun {G i} hG hi => by
        have hmem : G.getD i (0, 0) ∈ G := by
          simp [List.getD, hi]
        obtain ⟨s1, s2, s3⟩ := hG _ hmem
        refine ⟨by omega, ?_⟩
        by_cases h2 : (G.getD i (0, 0)).1 = 2
        · have := s2 h2; omega
        · have := s3 (by omega); omega
      have m := hm b2 ht
      have m' := hm b2' (i := t) (by omega)
      rw [x1, y1] at z1
      rw [x2, y2] at z2
      exact Prod.ext ((nI_eq m.1 m'.1).mp z1) ((nI_eq m.2 m'.2).mp z2)
/-- the way of a letter, and how it ends: the answer, the nodes passed, the counts of the links, whether it was mended -/
def g_L (n ln : Nat) (lo hi c0 c1 seen : Nat → Nat) (U : Nat) (pr : Bool) : Nat → Nat → List (Nat × Nat) → List Nat → (Nat → Int32) → Bool → Int32 × List Nat × (Nat → Int32) × Bool → Prop
  | 0, _, _, _, _, _, _ => False
  | k + 1, u, S, P, X, mm, R => match g_dw u S with
    | [] => R = (nI u, P, X, mm)
    | (kk, w) :: S1 => if P.length = 21 then R = (-14, P, X, mm) else match g_lh n ln lo hi c0 c1 seen u kk w with
      | none => R = (g_er kk, P, X, mm)
      | some l => if U.testBit l = true then g_L n ln lo hi c0 c1 seen U pr k (g_ot lo hi l u) (if kk = 2 then S1 else (kk, w) :: S1) (g_ot lo hi l u :: P) (fun j => if j = l then X j + 1 else X j) mm R
        else if pr = false ∨ mm = true then R = (-12, P, X, mm)
        else ∃ o, g_fd n ln lo hi c0 c1 (seen u) l u (if kk = 2 then g_ot lo hi l u else w) o ∧ match o with
          | none => R = (-12, P, X, mm)
          | some F => g_L n ln lo hi c0 c1 seen U pr k u (F ++ (if kk = 2 then S1 else (kk, w) :: S1)) P X true R
theorem g_L_uni {n ln U : Nat} {lo hi c0 c1 seen : Nat → Nat} {pr : Bool} (hN : g_net n ln lo hi) (hc0 : g_cs ln c0) : ∀ k u S P X mm R R', g_L n ln lo hi c0 c1 seen U pr k u S P X mm R → g_L n ln lo hi c0 c1 seen U pr k u S P X mm R' → R = R' := by
  intro k
  induction k with
  | zero => intro u S P X mm R R' h; exact h.elim
  | succ k ih =>
    intro u S P X mm R R' h h'
    unfold g_L at h h'
    cases hd : g_dw u S with
    | nil =>
      rw [hd] at h h'
      exact h.trans h'.symm
    | cons p S1 =>
      obtain ⟨kk, w⟩ := p
      rw [hd] at h h'
      dsimp only at h h'
      by_cases hP : P.length = 21
      · rw [if_pos hP] at h h'
        exact h.trans h'.symm
      · rw [if_neg hP] at h h'
        cases hl : g_lh n ln lo hi c0 c1 seen u kk w with
        | none =>
          rw [hl] at h h'
          exact h.trans h'.symm
        | some l =>
          rw [hl] at h h'
          dsimp only at h h'
          by_cases hU : U.testBit l = true
          · rw [if_pos hU] at h h'
            exact ih _ _ _ _ _ _ _ h h'
          · rw [if_neg hU] at h h'
            by_cases hpr : pr = false ∨ mm = true
            · rw [if_pos hpr] at h h'
              exact h.trans h'.symm
            · rw [if_neg hpr] at h h'
              obtain ⟨o, h1, h2⟩ := h
              obtain ⟨o', h1', h2'⟩ := h'
              have := g_fd_uni hN hc0 h1 h1'
              subst this
              cases o with
              | none => exact h2.trans h2'.symm
              | some F => exact ih _ _ _ _ _ _ _ h2 h2'
theorem g_L_end {n ln U k u : Nat} {lo hi c0 c1 seen : Nat → Nat} {pr mm : Bool} {S : List (Nat × Nat)} {P : List Nat} {X : Nat → Int32} (hd : g_dw u S = []) : g_L n ln lo hi c0 c1 seen U pr (k + 1) u S P X mm (nI u, P, X, mm) := by
  unfold g_L
  rw [hd]
theorem g_L_far {n ln U k u kk w : Nat} {lo hi c0 c1 seen : Nat → Nat} {pr mm : Bool} {S S1 : List (Nat × Nat)} {P : List Nat} {X : Nat → Int32} (hd : g_dw u S = (kk, w) :: S1) (hP : P.length = 21) : g_L n ln lo hi c0 c1 seen U pr (k + 1) u S P X mm (-14, P, X, mm) := by
  unfold g_L
  rw [hd]
  dsimp only
  rw [if_pos hP]
theorem g_L_no {n ln U k u kk w : Nat} {lo hi c0 c1 seen : Nat → Nat} {pr mm : Bool} {S S1 : List (Nat × Nat)} {P : List Nat} {X : Nat → Int32} (hd : g_dw u S = (kk, w) :: S1) (hP : P.length ≠ 21) (hl : g_lh n ln lo hi c0 c1 seen u kk w = none) : g_L n ln lo hi c0 c1 seen U pr (k + 1) u S P X mm (g_er kk, P, X, mm) := by
  unfold g_L
  rw [hd]
  dsimp only
  rw [if_neg hP, hl]
theorem g_L_over {n ln U k u kk w l : Nat} {lo hi c0 c1 seen : Nat → Nat} {pr mm : Bool} {S S1 : List (Nat × Nat)} {P : List Nat} {X : Nat → Int32} {R : Int32 × List Nat × (Nat → Int32) × Bool} (hd : g_dw u S = (kk, w) :: S1) (hP : P.length ≠ 21) (hl : g_lh n ln lo hi c0 c1 seen u kk w = some l) (hU : U.testBit l = true)
    (h : g_L n ln lo hi c0 c1 seen U pr k (g_ot lo hi l u) (if kk = 2 then S1 else (kk, w) :: S1) (g_ot lo hi l u :: P) (fun j => if j = l then X j + 1 else X j) mm R) : g_L n ln lo hi c0 c1 seen U pr (k + 1) u S P X mm R := by
  unfold g_L
  rw [hd]
  dsimp only
  rw [if_neg hP, hl]
  dsimp only
  rw [if_pos hU]
  exact h
theorem g_L_down {n ln U k u kk w l : Nat} {lo hi c0 c1 seen : Nat → Nat} {pr mm : Bool} {S S1 : List (Nat × Nat)} {P : List Nat} {X : Nat → Int32} (hd : g_dw u S = (kk, w) :: S1) (hP : P.length ≠ 21) (hl : g_lh n ln lo hi c0 c1 seen u kk w = some l) (hU : U.testBit l = false) (hpr : pr = false ∨ mm = true) : g_L n ln lo hi c0 c1 seen U pr (k + 1) u S P X mm (-12, P, X, mm) := by
  unfold g_L
  rw [hd]
  dsimp only
  rw [if_neg hP, hl]
  dsimp only
  rw [if_neg (by rw [hU]; simp), if_pos hpr]
theorem g_L_down2 {n ln U k u kk w l : Nat} {lo hi c0 c1 seen : Nat → Nat} {pr mm : Bool} {S S1 : List (Nat × Nat)} {P : List Nat} {X : Nat → Int32} (hd : g_dw u S = (kk, w) :: S1) (hP : P.length ≠ 21) (hl : g_lh n ln lo hi c0 c1 seen u kk w = some l) (hU : U.testBit l = false) (hpr : pr = true) (hmm : mm = false) (hf : g_fd n ln lo hi c0 c1 (seen u) l u (if kk = 2 then g_ot lo hi l u else w) none) : g_L n ln lo hi c0 c1 seen U pr (k + 1) u S P X mm (-12, P, X, mm) := by
  unfold g_L
  rw [hd]
  dsimp only
  rw [if_neg hP, hl]
  dsimp only
  rw [if_neg (by rw [hU]; simp), if_neg (by rw [hpr, hmm]; simp)]
  exact ⟨none, hf, rfl⟩
theorem g_L_mend {n ln U k u kk w l : Nat} {lo hi c0 c1 seen : Nat → Nat} {pr mm : Bool} {S S1 F : List (Nat × Nat)} {P : List Nat} {X : Nat → Int32} {R : Int32 × List Nat × (Nat → Int32) × Bool} (hd : g_dw u S = (kk, w) :: S1) (hP : P.length ≠ 21) (hl : g_lh n ln lo hi c0 c1 seen u kk w = some l) (hU : U.testBit l = false) (hpr : pr = true) (hmm : mm = false) (hf : g_fd n ln lo hi c0 c1 (seen u) l u (if kk = 2 then g_ot lo hi l u else w) (some F))
    (h : g_L n ln lo hi c0 c1 seen U pr k u (F ++ (if kk = 2 then S1 else (kk, w) :: S1)) P X true R) : g_L n ln lo hi c0 c1 seen U pr (k + 1) u S P X mm R := by
  unfold g_L
  rw [hd]
  dsimp only
  rw [if_neg hP, hl]
  dsimp only
  rw [if_neg (by rw [hU]; simp), if_neg (by rw [hpr, hmm]; simp)]
  exact ⟨some F, hf, h⟩
