/-! ===== all have learnt: where a letter comes to ===== -/
def q_ek (n ln : Nat) (lo hi c0 c1 : Nat → Nat) (U kk : Nat) : Nat → Nat → Option Nat := g_e ln lo hi (if kk = 0 then c0 else c1) U
theorem g_way_dst {e : Nat → Nat → Option Nat} {n : Nat} (he : g_ok e n) {w : Nat} : ∀ m u (W : Nat → Nat), g_way (fun x => g_nxt e n x w) u w m W → m ≤ g_dst e u w := by
  intro m
  induction m with
  | zero => intro u W _; exact Nat.zero_le _
  | succ m ih =>
    intro u W h
    obtain ⟨h0, hm, hs⟩ := h
    have h1 := hs 0 (by omega)
    rw [h0] at h1
    have hd : g_dst e (W 1) w < g_dst e u w := g_nxt_dst he h1
    have := ih (W 1) (fun j => W (j + 1)) ⟨rfl, hm, fun j hj => hs (j + 1) (by omega)⟩
    omega
theorem g_L_dw {n ln U : Nat} {lo hi c0 c1 seen : Nat → Nat} {pr : Bool} {k u : Nat} {S S' : List (Nat × Nat)} {P : List Nat} {X : Nat → Int32} {mm : Bool} {R : Int32 × List Nat × (Nat → Int32) × Bool} (e : g_dw u S = g_dw u S') (h : g_L n ln lo hi c0 c1 seen U pr k u S P X mm R) : g_L n ln lo hi c0 c1 seen U pr k u S' P X mm R := by
  cases k with
  | zero => exact h
  | succ k =>
    unfold g_L at h ⊢
    rw [← e]
    exact h
theorem g_lh_all {n ln U : Nat} {lo hi c0 c1 seen : Nat → Nat} (hs : ∀ u, u < n → seen u = U) {u kk w : Nat} (hk : kk < 2) (hu : u < n) : g_lh n ln lo hi c0 c1 seen u kk w = g_nl ln lo hi u (g_nxt (q_ek n ln lo hi c0 c1 U kk) n u w) := by
  unfold g_lh q_ek
  rw [if_neg (by omega), hs u hu]
theorem g_lk_ot' {n ln u v l : Nat} {lo hi : Nat → Nat} (hN : g_net n ln lo hi) (h : g_lk ln lo hi u v = some l) : g_ot lo hi l u = v := by
  have h1 := (g_lk_some hN).mp h
  unfold g_ot
  rcases h1.2 with ⟨a, b⟩ | ⟨a, b⟩
  · rw [if_pos a]; exact b
  · have h2 := hN.2.2.2.1 l h1.1
    rw [if_neg (by omega)]; exact a
theorem q_walk {n ln U : Nat} {lo hi c0 c1 seen : Nat → Nat} {pr mm : Bool} {R : Int32 × List Nat × (Nat → Int32) × Bool} (hN : g_net n ln lo hi) (hc0 : g_cs ln c0) (hc1 : g_cs ln c1) (hs : ∀ u, u < n → seen u = U) {kk w : Nat} (hk : kk < 2) (S1 : List (Nat × Nat)) : ∀ m k u (W : Nat → Nat) (P : List Nat) (X : Nat → Int32), g_way (fun x => g_nxt (q_ek n ln lo hi c0 c1 U kk) n x w) u w m W → u < n → P.length ≤ 21 → g_L n ln lo hi c0 c1 seen U pr k u ((kk, w) :: S1) P X mm R →
    (R.1 = -14 ∧ 21 < P.length + m) ∨ ∃ k' P' X', g_L n ln lo hi c0 c1 seen U pr k' w S1 P' X' mm R ∧ P'.length = P.length + m ∧ P'.length ≤ 21 := by
  have hce : g_ok (q_ek n ln lo hi c0 c1 U kk) n := by
    unfold q_ek
    split
    · exact g_e_ok hN hc0 U
    · exact g_e_ok hN hc1 U
  intro m
  induction m with
  | zero =>
    intro k u W P X hw hu hP h
    have e : u = w := hw.1.symm.trans hw.2.1
    subst e
    refine Or.inr ⟨k, P, X, g_L_dw ?_ h, rfl, hP⟩
    show (if kk < 2 ∧ u = u then g_dw u S1 else _) = _
    rw [if_pos ⟨hk, rfl⟩]
  | succ m ih =>
    intro k u W P X hw hu hP h
    obtain ⟨h0, hm, hst⟩ := hw
    have h1 := hst 0 (by omega)
    rw [h0] at h1
    obtain ⟨v, hv⟩ : ∃ v, W 1 = v := ⟨_, rfl⟩
    have h1 : g_nxt (q_ek n ln lo hi c0 c1 U kk) n u w = some v := by rw [← hv]; exact h1
    obtain ⟨hvn, -, -, hne, c, hc, -⟩ := g_nxt_some hce h1
    cases k with
    | zero => exact h.elim
    | succ k =>
      have hdw : g_dw u ((kk, w) :: S1) = (kk, w) :: S1 := by
        show (if kk < 2 ∧ w = u then g_dw u S1 else (kk, w) :: S1) = _
        rw [if_neg (fun z => hne z.2.symm)]
      obtain ⟨l, hl, hU, -⟩ : ∃ l, g_lk ln lo hi u v = some l ∧ U.testBit l = true ∧ (if kk = 0 then c0 else c1) l = c := g_e_some.mp hc
      have hlh : g_lh n ln lo hi c0 c1 seen u kk w = some l := by
        rw [g_lh_all hs hk hu, h1]
        exact hl
      unfold g_L at h
      rw [hdw] at h
      dsimp only at h
      by_cases hP21 : P.length = 21
      · rw [if_pos hP21] at h
        exact Or.inl ⟨by rw [h], by omega⟩
      · rw [if_neg hP21, hlh] at h
        dsimp only at h
        rw [if_pos hU, if_neg (show ¬ kk = 2 by omega), g_lk_ot' hN hl] at h
        rcases ih k v (fun j => W (j + 1)) (v :: P) _ ⟨hv, hm, fun j hj => hst (j + 1) (by omega)⟩ hvn (by rw [List.length_cons]; omega) h with ⟨a, b⟩ | ⟨k', P', X', a, b, c'⟩
        · rw [List.length_cons] at b
          exact Or.inl ⟨a, by omega⟩
        · rw [List.length_cons] at b
          exact Or.inr ⟨k', P', X', a, by omega, c'⟩
def q_tog (n ln : Nat) (lo hi c0 c1 : Nat → Nat) (U : Nat) : Nat → List (Nat × Nat) → Prop
  | _, [] => True
  | u, p :: S => g_rch (q_ek n ln lo hi c0 c1 U p.1) u p.2 ∧ q_tog n ln lo hi c0 c1 U p.2 S
noncomputable def q_sum (n ln : Nat) (lo hi c0 c1 : Nat → Nat) (U : Nat) : Nat → List (Nat × Nat) → Nat
  | _, [] => 0
  | u, p :: S => g_dst (q_ek n ln lo hi c0 c1 U p.1) u p.2 + q_sum n ln lo hi c0 c1 U p.2 S
def q_end : Nat → List (Nat × Nat) → Nat
  | u, [] => u
  | _, p :: S => q_end p.2 S
theorem q_end_snoc (p : Nat × Nat) : ∀ (S : List (Nat × Nat)) (u : Nat), q_end u (S ++ [p]) = p.2
  | [], _ => rfl
  | q :: S, _ => q_end_snoc p S q.2
theorem q_tog_snoc {n ln U : Nat} {lo hi c0 c1 : Nat → Nat} (p : Nat × Nat) : ∀ (S : List (Nat × Nat)) (u : Nat), q_tog n ln lo hi c0 c1 U u (S ++ [p]) ↔ (q_tog n ln lo hi c0 c1 U u S ∧ g_rch (q_ek n ln lo hi c0 c1 U p.1) (q_end u S) p.2)
  | [], u => by
    show (_ ∧ True) ↔ (True ∧ _)
    exact ⟨fun h => ⟨trivial, h.1⟩, fun h => ⟨h.2, trivial⟩⟩
  | q :: S, u => by
    show (_ ∧ q_tog n ln lo hi c0 c1 U q.2 (S ++ [p])) ↔ ((_ ∧ q_tog n ln lo hi c0 c1 U q.2 S) ∧ g_rch _ (q_end q.2 S) p.2)
    rw [q_tog_snoc p S q.2, and_assoc]
theorem q_sum_snoc {n ln U : Nat} {lo hi c0 c1 : Nat → Nat} (p : Nat × Nat) : ∀ (S : List (Nat × Nat)) (u : Nat), q_sum n ln lo hi c0 c1 U u (S ++ [p]) = q_sum n ln lo hi c0 c1 U u S + g_dst (q_ek n ln lo hi c0 c1 U p.1) (q_end u S) p.2
  | [], u => by
    show _ + 0 = 0 + _
    rw [Nat.add_zero, Nat.zero_add]
    rfl
  | q :: S, u => by
    show _ + q_sum n ln lo hi c0 c1 U q.2 (S ++ [p]) = (_ + q_sum n ln lo hi c0 c1 U q.2 S) + _
    rw [q_sum_snoc p S q.2, Nat.add_assoc]
    rfl
theorem q_arr1 {n ln U : Nat} {lo hi c0 c1 seen : Nat → Nat} {pr mm : Bool} {R : Int32 × List Nat × (Nat → Int32) × Bool} (hN : g_net n ln lo hi) (hc0 : g_cs ln c0) (hc1 : g_cs ln c1) (hs : ∀ u, u < n → seen u = U) : ∀ (S : List (Nat × Nat)) k u (P : List Nat) (X : Nat → Int32), (∀ p, p ∈ S → p.1 < 2 ∧ p.2 < n) → u < n → P.length ≤ 21 → q_tog n ln lo hi c0 c1 U u S → g_L n ln lo hi c0 c1 seen U pr k u S P X mm R → (R.1 = nI (q_end u S) ∧ R.2.1.length ≤ P.length + q_sum n ln lo hi c0 c1 U u S) ∨ R.1 = -14 := by
  intro S
  induction S with
  | nil =>
    intro k u P X _ _ _ _ h
    cases k with
    | zero => exact h.elim
    | succ k =>
      have h : R = (nI u, P, X, mm) := h
      rw [h]
      exact Or.inl ⟨rfl, Nat.le_refl _⟩
  | cons p S ih =>
    intro k u P X hp hu hP ht h
    obtain ⟨kk, w⟩ := p
    obtain ⟨t1, t2⟩ := ht
    obtain ⟨hk, hw⟩ := hp (kk, w) List.mem_cons_self
    have hk : kk < 2 := hk
    have hw : w < n := hw
    have hce : g_ok (q_ek n ln lo hi c0 c1 U kk) n := by
      unfold q_ek
      split
      · exact g_e_ok hN hc0 U
      · exact g_e_ok hN hc1 U
    have t1 : g_rch (q_ek n ln lo hi c0 c1 U kk) u w := t1
    obtain ⟨m, W, -, hway, -⟩ := g_way_ex' hce hu t1
    have hmd : m ≤ g_dst (q_ek n ln lo hi c0 c1 U kk) u w := g_way_dst hce m u W hway
    rcases q_walk hN hc0 hc1 hs hk S m k u W P X hway hu hP h with ⟨a, -⟩ | ⟨k', P', X', a, b, c⟩
    · exact Or.inr a
    · rcases ih k' w P' X' (fun q hq => hp q (List.mem_cons_of_mem _ hq)) hw c t2 a with ⟨d1, d2⟩ | d
      · refine Or.inl ⟨d1, ?_⟩
        show _ ≤ _ + (g_dst (q_ek n ln lo hi c0 c1 U kk) u w + q_sum n ln lo hi c0 c1 U w S)
        omega
      · exact Or.inr d
theorem q_arr0 {n ln U : Nat} {lo hi c0 c1 seen : Nat → Nat} {pr mm : Bool} {R : Int32 × List Nat × (Nat → Int32) × Bool} (hN : g_net n ln lo hi) (hc0 : g_cs ln c0) (hc1 : g_cs ln c1) (hs : ∀ u, u < n → seen u = U) : ∀ (S : List (Nat × Nat)) k u (P : List Nat) (X : Nat → Int32), (∀ p, p ∈ S → p.1 < 2 ∧ p.2 < n) → u < n → P.length + 7 * S.length ≤ 22 → ¬ q_tog n ln lo hi c0 c1 U u S → g_L n ln lo hi c0 c1 seen U pr k u S P X mm R → R.1 = -11 := by
  intro S
  induction S with
  | nil => intro k u P X _ _ _ ht _; exact absurd trivial ht
  | cons p S ih =>
    intro k u P X hp hu hP ht h
    obtain ⟨kk, w⟩ := p
    obtain ⟨hk, hw⟩ := hp (kk, w) List.mem_cons_self
    have hk : kk < 2 := hk
    have hw : w < n := hw
    have hn8 := hN.2.1
    rw [List.length_cons] at hP
    have hce : g_ok (q_ek n ln lo hi c0 c1 U kk) n := by
      unfold q_ek
      split
      · exact g_e_ok hN hc0 U
      · exact g_e_ok hN hc1 U
    by_cases t1 : g_rch (q_ek n ln lo hi c0 c1 U kk) u w
    · obtain ⟨m, W, hmn, hway, -⟩ := g_way_ex' hce hu t1
      have hSl : 1 ≤ S.length := by
        cases S with
        | nil => exact absurd ⟨t1, trivial⟩ ht
        | cons q S => simp
      rcases q_walk hN hc0 hc1 hs hk S m k u W P X hway hu (by omega) h with ⟨-, b⟩ | ⟨k', P', X', a, b, c⟩
      · omega
      · exact ih k' w P' X' (fun q hq => hp q (List.mem_cons_of_mem _ hq)) hw (by omega) (fun z => ht ⟨t1, z⟩) a
    · cases k with
      | zero => exact h.elim
      | succ k =>
        have hne : u ≠ w := fun z => t1 (by rw [z]; exact g_rch_self _ _)
        have hdw : g_dw u ((kk, w) :: S) = (kk, w) :: S := by
          show (if kk < 2 ∧ w = u then g_dw u S else (kk, w) :: S) = _
          rw [if_neg (fun z => hne z.2.symm)]
        have hlh : g_lh n ln lo hi c0 c1 seen u kk w = none := by
          rw [g_lh_all hs hk hu, (g_nxt_none hce hne).mpr t1]
          rfl
        unfold g_L at h
        rw [hdw] at h
        dsimp only at h
        rw [if_neg (by omega), hlh] at h
        dsimp only at h
        rw [h]
        show g_er kk = -11
        unfold g_er
        rw [if_neg (by omega)]
