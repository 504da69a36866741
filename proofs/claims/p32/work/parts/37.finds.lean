/-! ===== repairs and briefs, of both, and that there is one answer ===== -/
def g_OUT (ln : Nat) (lo hi W : Nat → Nat) (by_ : Nat → Nat → Option Nat) (m : Nat) (b : Bool) (T : Nat) (kd wh : Nat → Int32) : Prop := (b = true ∧ ∃ f ps, g_sf by_ m f ∧ f 0 < 1000 ∧ g_sl by_ m f T ps ∧ T < 8 ∧ ∀ t, t < T → kd t = i_o (by_ (ps t) (ps (t + 1))) ∧ wh t = nI (g_wt ln lo hi W by_ (ps t) (ps (t + 1)))) ∨ (b = false ∧ ∃ f, g_sf by_ m f ∧ ¬ f 0 < 1000)
def g_same (b b' : Bool) (T T' : Nat) (kd kd' wh wh' : Nat → Int32) : Prop := b = b' ∧ (b = true → T = T' ∧ ∀ t, t < T → kd t = kd' t ∧ wh t = wh' t)
theorem g_OUT_uni {ln m T T' : Nat} {lo hi W : Nat → Nat} {by_ : Nat → Nat → Option Nat} {b b' : Bool} {kd kd' wh wh' : Nat → Int32} (hm : 0 < m) (hm8 : m ≤ 8) (h : g_OUT ln lo hi W by_ m b T kd wh) (h' : g_OUT ln lo hi W by_ m b' T' kd' wh') : g_same b b' T T' kd kd' wh wh' := by
  rcases h with ⟨rfl, f, ps, a1, a2, a3, a4, a5⟩ | ⟨rfl, f, a1, a2⟩
  · rcases h' with ⟨rfl, f', ps', b1, b2, b3, b4, b5⟩ | ⟨rfl, f', b1, b2⟩
    · obtain ⟨rfl, h2⟩ := g_sl_uni hm hm8 a1 b1 a3 b3
      refine ⟨rfl, fun _ => ⟨rfl, fun t ht => ?_⟩⟩
      rw [(a5 t ht).1, (a5 t ht).2, (b5 t ht).1, (b5 t ht).2, h2 t (by omega), h2 (t + 1) (by omega)]
      exact ⟨rfl, rfl⟩
    · exact absurd (by rw [← g_sf_uni hm8 a1 b1 (m - 1) 0 (by omega)]; exact a2) b2
  · rcases h' with ⟨rfl, f', ps', b1, b2, b3, b4, b5⟩ | ⟨rfl, f', b1, b2⟩
    · exact absurd (by rw [g_sf_uni hm8 a1 b1 (m - 1) 0 (by omega)]; exact b2) a2
    · exact ⟨rfl, fun z => by simp at z⟩
theorem g_by_congr {nx0 nx1 : Nat → Nat → Option Nat} {d1 : Bool} {ln : Nat} {lo hi : Nat → Nat} {S : Nat} {W W' : Nat → Nat} {i j : Nat} (e : ∀ p, i ≤ p → p ≤ j → W p = W' p) (hij : i < j) : g_by nx0 nx1 d1 ln lo hi S W i j = g_by nx0 nx1 d1 ln lo hi S W' i j := by
  have l : ∀ nx, g_ld nx W i j ↔ g_ld nx W' i j := fun nx => by
    unfold g_ld
    constructor
    · intro h p h1 h2
      rw [← e p h1 (by omega), ← e j (by omega) (by omega), ← e (p + 1) (by omega) (by omega)]; exact h p h1 h2
    · intro h p h1 h2
      rw [e p h1 (by omega), e j (by omega) (by omega), e (p + 1) (by omega) (by omega)]; exact h p h1 h2
  have l2 : g_l2 ln lo hi S W i j ↔ g_l2 ln lo hi S W' i j := by
    unfold g_l2
    rw [e i (by omega) (by omega), e j (by omega) (by omega)]
  have c : ∀ {P P' : Prop}, (P ↔ P') → g_p P = g_p P' := fun h => by
    rw [Bool.eq_iff_iff, g_p_iff, g_p_iff]; exact h
  unfold g_by g_by1 g_by2
  rw [c (l nx0), c (l nx1), c l2]
theorem g_sf_by {by_ by' : Nat → Nat → Option Nat} {m : Nat} {f : Nat → Nat} (e : ∀ i j, i < j → j < m → by_ i j = by' i j) (h : g_sf by_ m f) : g_sf by' m f := by
  refine ⟨h.1, fun i hi => ?_⟩
  obtain ⟨a, b, c⟩ := h.2 i hi
  refine ⟨a, fun j h1 h2 h3 h4 => b j h1 h2 (by rw [e i j h1 h2]; exact h3) h4, fun hv => ?_⟩
  obtain ⟨j, h1, h2, h3, h4⟩ := c hv
  exact ⟨j, h1, h2, by rw [← e i j h1 h2]; exact h3, h4⟩
theorem g_jp_by {by_ by' : Nat → Nat → Option Nat} {m : Nat} {f : Nat → Nat} {i j : Nat} (e : ∀ i j, i < j → j < m → by_ i j = by' i j) (h : g_jp by_ m f i j) : g_jp by' m f i j := by
  obtain ⟨a, b, c, d, g⟩ := h
  refine ⟨a, b, by rw [← e i j a b]; exact c, d, fun j' h1 h2 => ?_⟩
  rw [← e i j' (by omega) h2]
  exact g j' h1 h2
theorem g_OUT_W {ln m T : Nat} {lo hi W W' : Nat → Nat} {nx0 nx1 : Nat → Nat → Option Nat} {d1 : Bool} {S : Nat} {b : Bool} {kd wh : Nat → Int32} (e : ∀ p, p < m → W p = W' p) (h : g_OUT ln lo hi W (g_by nx0 nx1 d1 ln lo hi S W) m b T kd wh) : g_OUT ln lo hi W' (g_by nx0 nx1 d1 ln lo hi S W') m b T kd wh := by
  have eb : ∀ i j, i < j → j < m → g_by nx0 nx1 d1 ln lo hi S W i j = g_by nx0 nx1 d1 ln lo hi S W' i j := fun i j h1 h2 => g_by_congr (fun p _ h3 => e p (by omega)) h1
  rcases h with ⟨rfl, f, ps, a1, a2, a3, a4, a5⟩ | ⟨rfl, f, a1, a2⟩
  · refine Or.inl ⟨rfl, f, ps, g_sf_by eb a1, a2, ⟨a3.1, a3.2.1, fun t ht => g_jp_by eb (a3.2.2 t ht)⟩, a4, fun t ht => ?_⟩
    obtain ⟨q1, q2, _⟩ := a3.2.2 t ht
    have := a5 t ht
    rw [eb _ _ q1 q2] at this
    refine ⟨this.1, ?_⟩
    rw [this.2]
    unfold g_wt
    rw [eb _ _ q1 q2, e _ (by omega), e _ q2]
  · exact Or.inr ⟨rfl, f, g_sf_by eb a1, a2⟩
/-- what stands in a list that was found -/
theorem g_OUT_ok {n ln m T : Nat} {lo hi W : Nat → Nat} {nx0 nx1 : Nat → Nat → Option Nat} {d1 : Bool} {S : Nat} {kd wh : Nat → Int32} (hN : g_net n ln lo hi) (hW : ∀ p, p < m → W p < n) (h : g_OUT ln lo hi W (g_by nx0 nx1 d1 ln lo hi S W) m true T kd wh) : T < 8 ∧ ∀ t, t < T → ∃ k w, kd t = nI k ∧ wh t = nI w ∧ k < 3 ∧ (k = 2 → w < ln) ∧ (k < 2 → w < n) := by
  rcases h with ⟨_, f, ps, a1, a2, a3, a4, a5⟩ | ⟨h, _⟩
  · refine ⟨a4, fun t ht => ?_⟩
    obtain ⟨q1, q2, q3, _⟩ := a3.2.2 t ht
    obtain ⟨b1, b2⟩ := a5 t ht
    cases hb : g_by nx0 nx1 d1 ln lo hi S W (ps t) (ps (t + 1)) with
    | none => exact absurd hb q3
    | some k =>
      have hk := g_by_lt hb
      rw [hb] at b1
      refine ⟨k, _, b1, b2, hk, fun h2 => ?_, fun h2 => ?_⟩
      · subst h2
        obtain ⟨_, l, hl, _⟩ := g_by_2 hb
        unfold g_wt
        rw [if_pos hb, hl]
        exact (g_lk_lt hN hl).1
      · unfold g_wt
        rw [if_neg (by rw [hb]; intro q; cases q; omega)]
        exact hW _ q2
  · cases h
def g_wo (S l : Nat) : Nat := S &&& (2 ^ l ^^^ (2 ^ 32 - 1))
theorem g_wo_le (S l : Nat) : g_wo S l ≤ S := Nat.and_le_left
theorem i_wo {S l : Nat} (hl : l < 31) : nI S &&& (((1 : Int32) <<< (nI l &&& 31)) ^^^ (-1)) = nI (g_wo S l) := by
  rw [i_1shl hl, i_m1, i_xor, i_and]
  rfl
theorem g_way_rch {e : Nat → Nat → Option Nat} {n u w m : Nat} {W : Nat → Nat} (he : g_ok e n) (h : g_way (fun x => g_nxt e n x w) u w m W) : g_rch e u w := by
  obtain ⟨h0, hm, hj⟩ := h
  cases m with
  | zero => rw [← h0, hm]; exact g_rch_self e w
  | succ m =>
    have := hj 0 (by omega)
    rw [h0] at this
    exact (g_nxt_some he this).2.2.1
/-- the answer to a repair -/
def g_RP (n ln : Nat) (lo hi c0 c1 : Nat → Nat) (S l u w : Nat) (b : Bool) (T : Nat) (kd wh : Nat → Int32) : Prop := (b = false ∧ ¬ g_rch (g_e ln lo hi c0 (g_wo S l)) u w) ∨ ∃ m W, m < n ∧ g_way (fun x => g_nxt (g_e ln lo hi c0 (g_wo S l)) n x w) u w m W ∧ (∀ j, j ≤ m → W j < n) ∧ g_OUT ln lo hi W (g_by (g_nxt (g_e ln lo hi c0 S) n) (g_nxt (g_e ln lo hi c1 S) n) false ln lo hi S W) (m + 1) b T kd wh
theorem g_RP_uni {n ln S l u w T T' : Nat} {lo hi c0 c1 : Nat → Nat} {b b' : Bool} {kd kd' wh wh' : Nat → Int32} (hN : g_net n ln lo hi) (hc0 : g_cs ln c0) (h : g_RP n ln lo hi c0 c1 S l u w b T kd wh) (h' : g_RP n ln lo hi c0 c1 S l u w b' T' kd' wh') : g_same b b' T T' kd kd' wh wh' := by
  have he := g_e_ok hN hc0 (g_wo S l)
  have hn8 := hN.2.1
  rcases h with ⟨rfl, h1⟩ | ⟨m, W, a1, a2, a3, a4⟩
  · rcases h' with ⟨rfl, h2⟩ | ⟨m', W', b1, b2, b3, b4⟩
    · exact ⟨rfl, fun z => by simp at z⟩
    · exact absurd (g_way_rch he b2) h1
  · rcases h' with ⟨rfl, h2⟩ | ⟨m', W', b1, b2, b3, b4⟩
    · exact absurd (g_way_rch he a2) h2
    · have e1 := g_way_len (f := fun x => g_nxt (g_e ln lo hi c0 (g_wo S l)) n x w) (g_nxt_self he w) a2 b2
      subst e1
      have e2 := g_way_pre a2 b2
      exact g_OUT_uni (by omega) (by omega) (g_OUT_W (fun p hp => e2 p (by omega) (by omega)) a4) b4
theorem g_RP_ok {n ln S l u w T : Nat} {lo hi c0 c1 : Nat → Nat} {kd wh : Nat → Int32} (hN : g_net n ln lo hi) (h : g_RP n ln lo hi c0 c1 S l u w true T kd wh) : T < 8 ∧ ∀ t, t < T → ∃ k w, kd t = nI k ∧ wh t = nI w ∧ k < 3 ∧ (k = 2 → w < ln) ∧ (k < 2 → w < n) := by
  rcases h with ⟨h, _⟩ | ⟨m, W, a1, a2, a3, a4⟩
  · cases h
  · exact g_OUT_ok hN (fun p hp => a3 p (by omega)) a4
theorem c_findRepair {n ln S l u w : Nat} {lo hi c0 c1 : Nat → Nat} {I : Nat → Nat → Int32} {L : Nat → Int64} {Q : Option Value → (Nat → Nat → Int32) → (Nat → Int64) → Prop} (hG : cG I n ln lo hi) (hN : g_net n ln lo hi) (hC0 : cC I ln 0 c0) (hC1 : cC I ln 1 c1) (hc0 : g_cs ln c0) (hc1 : g_cs ln c1) (hS : S < 2 ^ 31) (hl : l < 31) (hu : u < n) (hw : w < n) (hseen : I 448 u = nI S)
    (K : ∀ I' b T, Sm [1088, 1152, 1216, 2049, 2112, 2176, 2240, 2304, 2368, 2432, 2496, 2562, 2624, 2688] I I' → g_RP n ln lo hi c0 c1 S l u w b T (I' 2624) (I' 2688) → (b = true → I' 2562 0 = nI T) → Q (some (.int (i_b b))) I' L) :
    XS mX0_findRepair 0 [(0, .ref 31), (1, .int (nI u)), (2, .int (nI l)), (3, .int (nI w))] [] I L Q := by
  have hn8 := hN.2.1
  have hwo := g_wo_le S l
  refine bX0_findRepair_0 (vp_in_nI (by omega) (by decide)) ?_
  have hseen' : I 448 u = nI S := hseen
  rw [nI_clamp (by omega), hseen', i_wo hl]
  refine c_findWalk hG hN hC0 hc0 (by omega) hu hw (fun I1 m W s1 hm hway hWn hcW => bX0_findRepair_32 (fun h => absurd h (by decide)) (fun _ => bX0_findRepair_35 ?_)) (fun I1 s1 hr => bX0_findRepair_32 (fun _ => bX0_findRepair_49 (bX0_findRepair_50 (Or.inl rfl) (K I1 false 0 (s1.mono (by decide)) (Or.inl ⟨rfl, hr⟩) (fun z => by cases z)))) (fun h => absurd rfl h))
  have hC0' : cC I1 ln 0 c0 := fun l hl => by rw [s1 _ (by decide)]; exact hC0 l hl
  have hC1' : cC I1 ln 1 c1 := fun l hl => by rw [s1 _ (by decide)]; exact hC1 l hl
  refine c_shortList (d1 := false) (m := m + 1) (by omega) (by omega) (hG.sm s1 (by decide) (by decide) (by decide) (by decide)) hN hC0' hC1' hc0 hc1 hS hcW.1 (fun p hp => ⟨hcW.2 p (by omega), hWn p (by omega)⟩) rfl (fun I2 f T ps s2 a1 a2 a3 a4 a5 => ?_) (fun I2 f s2 a1 a2 => ?_)
  · refine bX0_findRepair_42 (fun h => absurd h (by decide)) (fun _ => bX0_findRepair_45 (bX0_findRepair_50 (Or.inr rfl) ?_))
    exact K I2 true T ((s1.mono (by decide)).tr (s2.mono (by decide))) (Or.inr ⟨m, W, hm, hway, hWn, Or.inl ⟨rfl, f, ps, a1, a2, a3, a4, a5.2⟩⟩) (fun _ => a5.1)
  · refine bX0_findRepair_42 (fun _ => bX0_findRepair_49 (bX0_findRepair_50 (Or.inl rfl) ?_)) (fun h => absurd rfl h)
    exact K I2 false 0 ((s1.mono (by decide)).tr (s2.mono (by decide))) (Or.inr ⟨m, W, hm, hway, hWn, Or.inr ⟨rfl, f, a1, a2⟩⟩) (fun z => by cases z)
/-- the answer to a brief -/
def g_BR (n ln : Nat) (lo hi c0 c1 W : Nat → Nat) (seen : Nat → Nat) (m : Nat) (b : Bool) (T : Nat) (kd wh : Nat → Int32) : Prop := (b = false ∧ m = 0) ∨ (0 < m ∧ g_OUT ln lo hi W (g_by (g_nxt (g_e ln lo hi c0 (seen (W 0))) n) (g_nxt (g_e ln lo hi c1 (seen (W 0))) n) true ln lo hi (seen (W 0)) W) m b T kd wh)
theorem g_BR_uni {n ln m T T' : Nat} {lo hi c0 c1 W seen : Nat → Nat} {b b' : Bool} {kd kd' wh wh' : Nat → Int32} (hm8 : m ≤ 8) (h : g_BR n ln lo hi c0 c1 W seen m b T kd wh) (h' : g_BR n ln lo hi c0 c1 W seen m b' T' kd' wh') : g_same b b' T T' kd kd' wh wh' := by
  rcases h with ⟨rfl, h1⟩ | ⟨h1, a⟩
  · rcases h' with ⟨rfl, h2⟩ | ⟨h2, a'⟩
    · exact ⟨rfl, fun z => by simp at z⟩
    · omega
  · rcases h' with ⟨rfl, h2⟩ | ⟨h2, a'⟩
    · omega
    · exact g_OUT_uni h1 hm8 a a'
theorem g_BR_ok {n ln m T : Nat} {lo hi c0 c1 W seen : Nat → Nat} {kd wh : Nat → Int32} (hN : g_net n ln lo hi) (hW : ∀ p, p < m → W p < n) (h : g_BR n ln lo hi c0 c1 W seen m true T kd wh) : T < 8 ∧ ∀ t, t < T → ∃ k w, kd t = nI k ∧ wh t = nI w ∧ k < 3 ∧ (k = 2 → w < ln) ∧ (k < 2 → w < n) := by
  rcases h with ⟨h, _⟩ | ⟨_, a⟩
  · cases h
  · exact g_OUT_ok hN hW a
theorem k_way : kR 32 2049 2112 8 := ⟨sh_32, 33, rf_2048, sh_33, rfl, rfl, by decide, by decide⟩
theorem k_traced : kR 29 1857 1920 8 := ⟨sh_29, 30, rf_1856, sh_30, rfl, rfl, by decide, by decide⟩
theorem k_found : kS 40 2562 2624 2688 8 := ⟨sh_40, 41, 42, rf_2560, rf_2561, sh_41, sh_42, rfl, rfl, rfl, by decide, by decide, by decide, by decide⟩
theorem k_list : kS 26 1666 1728 1792 8 := ⟨sh_26, 27, 28, rf_1664, rf_1665, sh_27, sh_28, rfl, rfl, rfl, by decide, by decide, by decide, by decide⟩
theorem c_findBrief {n ln m : Nat} {lo hi c0 c1 W seen : Nat → Nat} {I : Nat → Nat → Int32} {L : Nat → Int64} {Q : Option Value → (Nat → Nat → Int32) → (Nat → Int64) → Prop} (hG : cG I n ln lo hi) (hN : g_net n ln lo hi) (hC0 : cC I ln 0 c0) (hC1 : cC I ln 1 c1) (hc0 : g_cs ln c0) (hc1 : g_cs ln c1) (hm8 : m ≤ 8) (hlen : I 1857 0 = nI m) (hW : ∀ p, p < m → I 1920 p = nI (W p) ∧ W p < n) (hseen : ∀ u, u < n → I 448 u = nI (seen u) ∧ seen u < 2 ^ 31)
    (K : ∀ I' b T, Sm [1088, 1152, 1216, 2049, 2112, 2176, 2240, 2304, 2368, 2432, 2496, 2562, 2624, 2688] I I' → g_BR n ln lo hi c0 c1 W seen m b T (I' 2624) (I' 2688) → (b = true → I' 2562 0 = nI T) → Q (some (.int (i_b b))) I' L) :
    XS mX0_findBrief 0 [(0, .ref 31), (1, .ref 29)] [] I L Q := by
  have hn8 := hN.2.1
  refine bX0_findBrief_0 (c_rtake k_way k_traced (by decide) (by decide) (by decide) (by decide) hlen hm8 hm8 (fun I1 s1 hl1 hq1 => bX0_findBrief_8 (fun h => ?_) (fun h => ?_)))
  · have h' : I1 2049 0 ≤ nI 0 := h
    rw [hl1, nI_leI (by omega) (by omega)] at h'
    exact bX0_findBrief_47 (bX0_findBrief_48 (Or.inl rfl) (K I1 false 0 (s1.mono (by decide)) (Or.inl ⟨rfl, by omega⟩) (fun z => by cases z)))
  · have h' : ¬ I1 2049 0 ≤ nI 0 := h
    rw [hl1, nI_leI (by omega) (by omega)] at h'
    have w0 := hW 0 (by omega)
    have q0 := hq1 0 (by omega)
    have hC0' : cC I1 ln 0 c0 := fun l hl => by rw [s1 _ (by decide)]; exact hC0 l hl
    have hC1' : cC I1 ln 1 c1 := fun l hl => by rw [s1 _ (by decide)]; exact hC1 l hl
    have q0' : I1 2112 0 = nI (W 0) := by rw [← w0.1]; exact q0
    refine bX0_findBrief_18 (i_vp _ q0' (by omega) (by decide)) ?_
    have sn := hseen (W 0) w0.2
    have sn' : I1 448 (W 0) = nI (seen (W 0)) := by rw [s1 448 (by decide)]; exact sn.1
    rw [q0', nI_clamp (by omega), sn']
    refine c_shortList (d1 := true) (m := m) hm8 (by omega) (hG.sm s1 (by decide) (by decide) (by decide) (by decide)) hN hC0' hC1' hc0 hc1 sn.2 hl1 (fun p hp => ⟨by rw [hq1 p hp]; exact (hW p hp).1, (hW p hp).2⟩) rfl (fun I2 f T ps s2 a1 a2 a3 a4 a5 => ?_) (fun I2 f s2 a1 a2 => ?_)
    · refine bX0_findBrief_40 (fun h => absurd h (by decide)) (fun _ => bX0_findBrief_43 (bX0_findBrief_48 (Or.inr rfl) ?_))
      exact K I2 true T ((s1.mono (by decide)).tr (s2.mono (by decide))) (Or.inr ⟨by omega, Or.inl ⟨rfl, f, ps, a1, a2, a3, a4, a5.2⟩⟩) (fun _ => a5.1)
    · refine bX0_findBrief_40 (fun _ => bX0_findBrief_47 (bX0_findBrief_48 (Or.inl rfl) ?_)) (fun h => absurd rfl h)
      exact K I2 false 0 ((s1.mono (by decide)).tr (s2.mono (by decide))) (Or.inr ⟨by omega, Or.inr ⟨rfl, f, a1, a2⟩⟩) (fun z => by cases z)
