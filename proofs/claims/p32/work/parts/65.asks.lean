/-! ===== calls that ask the net ===== -/
theorem k_nextBad {S : q_S} {I : Nat → Nat → Int32} {L : Nat → Int64} {Q : Option Value → (Nat → Nat → Int32) → (Nat → Int64) → Prop} {x y z : Int32} (hx : g_is S.1.1 x = false) (h : Cl I S) (K : ∀ (I' : Nat → Nat → Int32) (L' : Nat → Int64), Cl I' (S) → Q (some (.int (-2))) I' L') : XS mX9_next 0 [(0, .ref 0), (1, .int x), (2, .int y), (3, .int z)] [] I L Q := by
  obtain ⟨n, ln, lo, hi, c0, c1, U, seen, e, hN, g1, g2, g3, g4, g5⟩ := h.opn
  rw [e] at hx
  refine bX9_next_0 (c_hasNode g1 ?_)
  rw [show g_is n x = false from hx]
  exact bX9_next_8 (fun _ => bX9_next_22 (K I L h)) (fun q => absurd rfl q)
theorem k_farBad {S : q_S} {I : Nat → Nat → Int32} {L : Nat → Int64} {Q : Option Value → (Nat → Nat → Int32) → (Nat → Int64) → Prop} {x y z : Int32} (hx : g_is S.1.1 x = true) (hy : g_is S.1.1 y = false) (h : Cl I S) (K : ∀ (I' : Nat → Nat → Int32) (L' : Nat → Int64), Cl I' (S) → Q (some (.int (-2))) I' L') : XS mX9_far 0 [(0, .ref 0), (1, .int x), (2, .int y), (3, .int z)] [] I L Q := by
  obtain ⟨n, ln, lo, hi, c0, c1, U, seen, e, hN, g1, g2, g3, g4, g5⟩ := h.opn
  rw [e] at hx hy
  refine bX9_far_0 (c_hasNode g1 ?_)
  rw [show g_is n x = true from hx]
  refine bX9_far_8 (fun q => absurd q (by decide)) (fun _ => bX9_far_11 (c_hasNode g1 ?_))
  rw [show g_is n y = false from hy]
  exact bX9_far_19 (fun q => absurd rfl q) (fun _ => bX9_far_22 (K I L h))
theorem k_spaceBad {S : q_S} {I : Nat → Nat → Int32} {L : Nat → Int64} {Q : Option Value → (Nat → Nat → Int32) → (Nat → Int64) → Prop} {x y z : Int32} (hx : g_is S.1.1 x = true) (hy : g_is S.1.2.1 y = false) (h : Cl I S) (K : ∀ (I' : Nat → Nat → Int32) (L' : Nat → Int64), Cl I' (S) → Q (some (.int (-2))) I' L') : XS mX9_space 0 [(0, .ref 0), (1, .int x), (2, .int y), (3, .int z)] [] I L Q := by
  obtain ⟨n, ln, lo, hi, c0, c1, U, seen, e, hN, g1, g2, g3, g4, g5⟩ := h.opn
  rw [e] at hx hy
  refine bX9_space_0 (c_hasNode g1 ?_)
  rw [show g_is n x = true from hx]
  refine bX9_space_8 (fun q => absurd q (by decide)) (fun _ => bX9_space_11 (c_hasLink g1 ?_))
  rw [show g_is ln y = false from hy]
  exact bX9_space_19 (fun q => absurd rfl q) (fun _ => bX9_space_22 (K I L h))
/-- the least sum from u to w by what u has seen -/
noncomputable def q_c (σ : g_St) (kd : Nat) : Nat → Nat := if kd = 0 then σ.2.2.2.2.1 else σ.2.2.2.2.2.1
noncomputable def q_e (σ : g_St) (kd S : Nat) : Nat → Nat → Option Nat := g_e σ.2.1 σ.2.2.1 σ.2.2.2.1 (q_c σ kd) S
noncomputable def q_d (σ : g_St) (u w kd : Nat) : Nat := g_dst (q_e σ kd (σ.2.2.2.2.2.2.2 u)) u w
theorem k_far {S : q_S} {I : Nat → Nat → Int32} {L : Nat → Int64} {Q : Option Value → (Nat → Nat → Int32) → (Nat → Int64) → Prop} {x y z : Int32} (u w kd : Nat) (hx : x = nI u) (hy : y = nI w) (hz : z = nI kd) (hu : u < S.1.1) (hw : w < S.1.1) (hk : kd < 2) (h : Cl I S) (K : ∀ (I' : Nat → Nat → Int32) (L' : Nat → Int64), Cl I' (S) → Q (some (.int (if q_d S.1 u w kd < 1000 then nI (q_d S.1 u w kd) else -1))) I' L') : XS mX9_far 0 [(0, .ref 0), (1, .int x), (2, .int y), (3, .int z)] [] I L Q := by
  subst hx; subst hy; subst hz
  obtain ⟨n, ln, lo, hi, c0, c1, U, seen, e, ⟨hN, hc0, hc1, -, -, hU, hS⟩, g1, g2, g3, g4, g5⟩ := h.opn
  have hn8 := hN.2.1
  unfold q_d q_e q_c at K
  rw [e] at hu hw K
  have hu : u < n := hu
  have hw : w < n := hw
  have good : ∀ c, cC I ln kd c → g_cs ln c → c = (if kd = 0 then c0 else c1) → XS mX9_far 37 [(0, .ref 0), (1, .int (nI u)), (2, .int (nI w)), (3, .int (nI kd))] [] I L Q := by
    intro c hC hc hcc
    have e0 : I 448 u = nI (seen u) := g5 u hu
    refine bX9_far_37 (vp_in_nI (by omega) (by decide)) ?_
    rw [nI_clamp (by omega), e0]
    have hok := g_e_ok hN hc (seen u)
    have hdc := g_dst_cases hok (w := w) hu
    have hdl : g_dst (g_e ln lo hi c (seen u)) u w ≤ 1000 := by rcases hdc with q | q <;> omega
    refine c_measure g1 hN hC hc hk (hS u hu) hw (fun I1 s1 hm => bX9_far_55 (c_sumFrom (by omega) (hm u hu).1 (by omega) (bX9_far_63 ?_)))
    subst hcc
    exact K I1 L (h.sm s1 (by decide))
  refine bX9_far_0 (c_hasNode g1 ?_)
  rw [(g_is_iff (n := n) (by omega)).mpr ⟨u, hu, rfl⟩]
  refine bX9_far_8 (fun q => absurd q (by decide)) (fun _ => bX9_far_11 (c_hasNode g1 ?_))
  rw [(g_is_iff (n := n) (by omega)).mpr ⟨w, hw, rfl⟩]
  refine bX9_far_19 (fun _ => bX9_far_25 (fun q => ?_) (fun q => bX9_far_29 (fun q2 => ?_) (fun q2 => ?_))) (fun q => absurd q (by decide))
  · have : kd = 0 := (i_eq kd 0 rfl rfl (by omega) (by decide)).mp q
    subst this
    exact good c0 g2 hc0 rfl
  · have : kd = 1 := (i_eq kd 1 rfl rfl (by omega) (by decide)).mp q2
    subst this
    exact good c1 g3 hc1 rfl
  · have a1 : kd ≠ 0 := fun z => q (by rw [z]; rfl)
    have a2 : kd ≠ 1 := fun z => q2 (by rw [z]; rfl)
    omega
theorem g_hnx {n ln U : Nat} {lo hi c seen : Nat → Nat} (hN : g_net n ln lo hi) (hc : g_cs ln c) : ∀ M w u v, g_FL (g_nxt (g_e ln lo hi c U) n) (g_nS n ln lo hi c seen) M w u = some v → v < n := fun M w u v h => by
  unfold g_FL at h
  split at h
  · exact (g_nxt_some (g_e_ok hN hc U) h).1
  · exact (g_nxt_some (g_e_ok hN hc (seen u)) h).1
noncomputable def q_nU (σ : g_St) : Nat → Nat → Option Nat := g_nxt (g_e σ.2.1 σ.2.2.1 σ.2.2.2.1 σ.2.2.2.2.1 σ.2.2.2.2.2.2.1) σ.1
noncomputable def q_nS (σ : g_St) : Nat → Nat → Option Nat := g_nS σ.1 σ.2.1 σ.2.2.1 σ.2.2.2.1 σ.2.2.2.2.1 σ.2.2.2.2.2.2.2
noncomputable def q_sf (σ : g_St) (M : Nat) : Bool := g_safe (q_nU σ) (q_nS σ) σ.1 M
noncomputable def q_rm (σ : g_St) (M w : Nat) : Nat := g_rm (q_nU σ) (q_nS σ) σ.1 M w
def q_bh (σ : g_St) : Nat := g_bh σ.1 σ.2.2.2.2.2.2.1 σ.2.2.2.2.2.2.2
theorem k_ringsBad {S : q_S} {I : Nat → Nat → Int32} {L : Nat → Int64} {Q : Option Value → (Nat → Nat → Int32) → (Nat → Int64) → Prop} {x : Int32} (hx : g_is S.1.1 x = false) (h : Cl I S) (K : ∀ (I' : Nat → Nat → Int32) (L' : Nat → Int64), Cl I' (S) → Q (some (.int (-2))) I' L') : XS mX9_rings 0 [(0, .ref 0), (1, .int x)] [] I L Q := by
  obtain ⟨n, ln, lo, hi, c0, c1, U, seen, e, hN, g1, g2, g3, g4, g5⟩ := h.opn
  rw [e] at hx
  refine bX9_rings_0 (c_hasNode g1 ?_)
  rw [show g_is n x = false from hx]
  exact bX9_rings_8 (fun q => absurd rfl q) (fun _ => bX9_rings_11 (K I L h))
theorem k_rings {S : q_S} {I : Nat → Nat → Int32} {L : Nat → Int64} {Q : Option Value → (Nat → Nat → Int32) → (Nat → Int64) → Prop} {x : Int32} (w : Nat) (hx : x = nI w) (hw : w < S.1.1) (h : Cl I S) (K : ∀ (I' : Nat → Nat → Int32) (L' : Nat → Int64), Cl I' (S) → Q (some (.int (nI (q_rm S.1 0 w)))) I' L') : XS mX9_rings 0 [(0, .ref 0), (1, .int x)] [] I L Q := by
  subst hx
  obtain ⟨n, ln, lo, hi, c0, c1, U, seen, e, ⟨hN, hc0, hc1, -, -, hU, hS⟩, g1, g2, g3, g4, g5⟩ := h.opn
  have hn8 := hN.2.1
  unfold q_rm q_nU q_nS at K
  rw [e] at hw K
  have hw : w < n := hw
  refine bX9_rings_0 (c_hasNode g1 ?_)
  rw [(g_is_iff (n := n) (by omega)).mpr ⟨w, hw, rfl⟩]
  exact bX9_rings_8 (fun _ => bX9_rings_14 (c_lookTowards g1 hN g2 hc0 g4 hU (fun u hu => ⟨g5 u hu, hS u hu⟩) hw (fun I1 s1 hR hF => bX9_rings_22 (c_ringsOf (M := 0) (by rw [s1 _ (by decide)]; exact g1.1) hn8 hw (by decide) hR (g_hnx hN hc0 0 w) (bX9_rings_31 (K I1 L (h.sm s1 (by decide)))))))) (fun q => absurd q (by decide))
theorem k_safeBad {S : q_S} {I : Nat → Nat → Int32} {L : Nat → Int64} {Q : Option Value → (Nat → Nat → Int32) → (Nat → Int64) → Prop} {x : Int32} (hx : g_is S.1.1 x = false) (h : Cl I S) (K : ∀ (I' : Nat → Nat → Int32) (L' : Nat → Int64), Cl I' (S) → Q (some (.int (-2))) I' L') : XS mX9_safe 0 [(0, .ref 0), (1, .int x)] [] I L Q := by
  obtain ⟨n, ln, lo, hi, c0, c1, U, seen, e, hN, g1, g2, g3, g4, g5⟩ := h.opn
  rw [e] at hx
  refine bX9_safe_0 (c_hasNode g1 ?_)
  rw [show g_is n x = false from hx]
  exact bX9_safe_8 (fun q => absurd rfl q) (fun _ => bX9_safe_11 (K I L h))
theorem k_safe {S : q_S} {I : Nat → Nat → Int32} {L : Nat → Int64} {Q : Option Value → (Nat → Nat → Int32) → (Nat → Int64) → Prop} {x : Int32} (w : Nat) (hx : x = nI w) (hw : w < S.1.1) (h : Cl I S) (K : ∀ (I' : Nat → Nat → Int32) (L' : Nat → Int64), Cl I' (S) → Q (some (.int (i_b (q_sf S.1 (2 ^ w))))) I' L') : XS mX9_safe 0 [(0, .ref 0), (1, .int x)] [] I L Q := by
  subst hx
  obtain ⟨n, ln, lo, hi, c0, c1, U, seen, e, ⟨hN, hc0, hc1, -, -, hU, hS⟩, g1, g2, g3, g4, g5⟩ := h.opn
  have hn8 := hN.2.1
  unfold q_sf q_nU q_nS at K
  rw [e] at hw K
  have hw : w < n := hw
  have hp : 2 ^ w ≤ 2 ^ 7 := Nat.pow_le_pow_right (by omega) (by omega)
  have hM : 2 ^ w < 2 ^ 31 := by omega
  refine bX9_safe_0 (c_hasNode g1 ?_)
  rw [(g_is_iff (n := n) (by omega)).mpr ⟨w, hw, rfl⟩]
  refine bX9_safe_8 (fun _ => bX9_safe_14 (c_lookAround g1 hN g2 hc0 g4 hU (fun u hu => ⟨g5 u hu, hS u hu⟩) (fun I1 s1 hR => bX9_safe_21 ?_))) (fun q => absurd q (by decide))
  rw [i_1shl (by omega)]
  refine c_hasRings (by rw [s1 _ (by decide)]; exact g1.1) hn8 hM hR (g_hnx hN hc0 (2 ^ w)) ?_
  have K' := K I1 L (h.sm s1 (by decide))
  dsimp only at K'
  cases hsf : g_safe (g_nxt (g_e ln lo hi c0 U) n) (g_nS n ln lo hi c0 seen) n (2 ^ w) with
  | true => rw [hsf] at K'; exact bX9_safe_31 (fun _ => bX9_safe_38 (bX9_safe_39 K')) (fun q => absurd rfl q)
  | false => rw [hsf] at K'; exact bX9_safe_31 (fun q => absurd q (by decide)) (fun _ => bX9_safe_34 (bX9_safe_39 K'))
theorem k_ord {S : q_S} {I : Nat → Nat → Int32} {L : Nat → Int64} {Q : Option Value → (Nat → Nat → Int32) → (Nat → Int64) → Prop} {x : Int32} (h : Cl I S) (K : ∀ (I' : Nat → Nat → Int32) (L' : Nat → Int64) (r : Int32), Cl I' S → g_OA (q_sf S.1) S.1.1 (q_bh S.1) x r → Q (some (.int r)) I' L') : XS mX9_order 0 [(0, .ref 0), (1, .int x)] [] I L Q := by
  obtain ⟨n, ln, lo, hi, c0, c1, U, seen, e, ⟨hN, hc0, hc1, -, -, hU, hS⟩, g1, g2, g3, g4, g5⟩ := h.opn
  refine c_order g1 hN g2 hc0 g4 hU (fun u hu => ⟨g5 u hu, hS u hu⟩) (fun I1 r s1 hr => K I1 L r (h.sm s1 (by decide)) ?_)
  have e1 : q_sf S.1 = g_safe (g_nxt (g_e ln lo hi c0 U) n) (g_nS n ln lo hi c0 seen) n := by
    funext M
    unfold q_sf q_nU q_nS
    rw [e]
  have e2 : q_bh S.1 = g_bh n U seen := by unfold q_bh; rw [e]
  rw [e1, e2, e]
  exact hr
/-! ===== lists ===== -/
theorem Cl.setF {S : q_S} {F' : List (Nat × Nat)} {T : List Nat} {I I' : Nat → Nat → Int32} (h : Cl I S) (hs : Sm T I I') (hT : ∀ r, r ∈ T → r ∈ [1666, 1728, 1792]) (ht : qLi I' S.1.1 S.1.2.1 F') : Cl I' (uF S F') := by
  have s : Sm [1666, 1728, 1792] I I' := hs.mono hT
  obtain ⟨h1, h2, h3, h4, h5, h6, h7, h8, h9⟩ := h
  exact ⟨h1, qNe_ag h2 (s.ag (by decide)), h3.ag (s.ag (by decide)), ht, h5.ag (s.ag (by decide)), h6.ag (s.ag (by decide)), h7.ag (s.ag (by decide)), h8.ag (s.ag (by decide)), (s 3136 (by decide)).trans h9⟩
theorem k_clear {S : q_S} {I : Nat → Nat → Int32} {L : Nat → Int64} {Q : Option Value → (Nat → Nat → Int32) → (Nat → Int64) → Prop} (h : Cl I S) (K : ∀ (I' : Nat → Nat → Int32) (L' : Nat → Int64), Cl I' (uF S []) → Q (some (.int (nI (sF S).length))) I' L') : XS mX9_clear 0 [(0, .ref 0)] [] I L Q := by
  refine bX9_clear_0 ?_
  rw [show I 1666 0 = nI (sF S).length from h.2.2.2.1.2.2.1]
  refine K _ L (h.setF (T := [1666]) (Sm.rf.up (by decide)) (by decide) ⟨by simp, fun p hp => (by cases hp), ?_, fun t ht => (by simp at ht)⟩)
  rw [x_up_at]; rfl
def oSg (S : q_S) (k w : Nat) : Int32 := if w = 0 then nI ((sF S).getD k (0, 0)).1 else nI ((sF S).getD k (0, 0)).2
theorem k_segment {S : q_S} {I : Nat → Nat → Int32} {L : Nat → Int64} {Q : Option Value → (Nat → Nat → Int32) → (Nat → Int64) → Prop} {x y : Int32} (k w : Nat) (hx : x = nI k) (hy : y = nI w) (hk : k < (sF S).length) (hw : w < 2) (h : Cl I S) (K : ∀ (I' : Nat → Nat → Int32) (L' : Nat → Int64), Cl I' (S) → Q (some (.int (oSg S k w))) I' L') : XS mX9_segment 0 [(0, .ref 0), (1, .int x), (2, .int y)] [] I L Q := by
  subst hx; subst hy
  obtain ⟨f1, f2, f3, f5⟩ := h.2.2.2.1
  have f3' : I 1666 0 = nI (sF S).length := f3
  obtain ⟨e1, e2⟩ := f5 k hk
  have hv : vp_in (nI k) 8 := vp_in_nI (by omega) (by decide)
  refine bX9_segment_0 (fun q => absurd rfl (i_neg q (a := k) (by omega))) (fun _ => bX9_segment_4 (fun _ => ?_) (fun q => ?_))
  · rcases (show w = 0 ∨ w = 1 by omega) with rfl | rfl
    · refine bX9_segment_18 (fun _ => bX9_segment_30 (fun q => absurd q (by decide)) (fun _ => bX9_segment_34 hv (bX9_segment_55 ?_))) (fun q => absurd q (by decide))
      rw [nI_clamp (by omega), show I 1728 k = _ from e1]
      exact K I L h
    · refine bX9_segment_18 (fun q => absurd q (by decide)) (fun _ => bX9_segment_22 (fun _ => bX9_segment_30 (fun _ => bX9_segment_46 hv (bX9_segment_55 ?_)) (fun q => absurd q (by decide))) (fun q => absurd q (by decide)))
      rw [nI_clamp (by omega), show I 1792 k = _ from e2]
      exact K I L h
  · rw [f3'] at q
    exact absurd ((i_lt k _ rfl rfl (by omega) (by omega)).mpr hk) q
theorem k_segmentBad {S : q_S} {I : Nat → Nat → Int32} {L : Nat → Int64} {Q : Option Value → (Nat → Nat → Int32) → (Nat → Int64) → Prop} {x y : Int32} (hx : ¬ x < nI (sF S).length) (h : Cl I S) (K : ∀ (I' : Nat → Nat → Int32) (L' : Nat → Int64), Cl I' (S) → Q (some (.int (-2))) I' L') : XS mX9_segment 0 [(0, .ref 0), (1, .int x), (2, .int y)] [] I L Q := by
  have f3' : I 1666 0 = nI (sF S).length := h.2.2.2.1.2.2.1
  refine bX9_segment_0 (fun q => bX9_segment_15 (K I L h)) (fun _ => bX9_segment_4 (fun q => ?_) (fun _ => bX9_segment_15 (K I L h)))
  rw [f3'] at q
  exact absurd q hx
theorem k_pushOut {S : q_S} {I : Nat → Nat → Int32} {L : Nat → Int64} {Q : Option Value → (Nat → Nat → Int32) → (Nat → Int64) → Prop} {x y : Int32} (hx : x < 0 ∨ ¬ x ≤ 2) (h : Cl I S) (K : ∀ (I' : Nat → Nat → Int32) (L' : Nat → Int64), Cl I' (S) → Q (some (.int (-3))) I' L') : XS mX9_push 0 [(0, .ref 0), (1, .int x), (2, .int y)] [] I L Q := by
  refine bX9_push_0 (fun _ => bX9_push_9 (K I L h)) (fun q => bX9_push_4 (fun q2 => ?_) (fun _ => bX9_push_9 (K I L h)))
  rcases hx with z | z
  · exact absurd z q
  · exact absurd q2 z
theorem g_sg_of {n ln a b : Nat} (ha : a ≤ 2) (h : (if a = 2 then decide (b < ln) else decide (b < n)) = true) : g_sg n ln (a, b) := by
  refine ⟨by show a < 3; omega, fun q => ?_, fun q => ?_⟩
  · have q' : a = 2 := q
    rw [if_pos q'] at h
    exact of_decide_eq_true h
  · have q' : ¬ a = 2 := by have : a < 2 := q; omega
    rw [if_neg q'] at h
    exact of_decide_eq_true h
def q_pu (σ : g_St) (F : List (Nat × Nat)) (a b : Nat) : Int32 × List (Nat × Nat) := if (if a = 2 then decide (b < σ.2.1) else decide (b < σ.1)) = true then (if F.length < 8 then (nI (F.length + 1), F ++ [(a, b)]) else (-5, F)) else (-2, F)
theorem k_push {S : q_S} {I : Nat → Nat → Int32} {L : Nat → Int64} {Q : Option Value → (Nat → Nat → Int32) → (Nat → Int64) → Prop} {x y : Int32} (a b : Nat) (hx : x = nI a) (hy : y = nI b) (ha : a ≤ 2) (hb : b < 2 ^ 31) (h : Cl I S) (K : ∀ (I' : Nat → Nat → Int32) (L' : Nat → Int64), Cl I' (uF S (q_pu S.1 (sF S) a b).2) → Q (some (.int ((q_pu S.1 (sF S) a b).1))) I' L') : XS mX9_push 0 [(0, .ref 0), (1, .int x), (2, .int y)] [] I L Q := by
  subst hx; subst hy
  obtain ⟨f1, f2, f3, f5⟩ := id h.2.2.2.1
  obtain ⟨-, hn8, hln, -⟩ := g_okS_E h.1
  have hG : cG I S.1.1 S.1.2.1 S.1.2.2.1 S.1.2.2.2.1 := by obtain ⟨⟨n, ln, lo, hi, c0, c1, U, seen⟩, S2⟩ := S; exact h.2.1.1
  have f3' : I 1666 0 = nI (sF S).length := f3
  have no : (if a = 2 then decide (b < S.1.2.1) else decide (b < S.1.1)) = false → Q (some (.int (-2))) I L := fun hb => by
    have := K I L
    unfold q_pu at this
    rw [hb, if_neg (by simp)] at this
    exact this h
  have good : (if a = 2 then decide (b < S.1.2.1) else decide (b < S.1.1)) = true → XS mX9_push 45 [(0, .ref 0), (1, .int (nI a)), (2, .int (nI b))] [] I L Q := by
    intro hbb
    unfold q_pu at K
    rw [hbb, if_pos rfl] at K
    have hsg := g_sg_of ha hbb
    refine bX9_push_45 (fun z => bX9_push_60 ?_) (fun z => bX9_push_57 ?_)
    · rw [f3'] at z
      have hlt := (i_lt (sF S).length 8 rfl rfl (by omega) (by decide)).mp z
      rw [if_pos hlt] at K
      refine c_sput' k_list f3 hlt (bX9_push_69 ?_)
      have s1 : Sm [1666, 1728, 1792] I (x_up (x_up (x_up I 1728 (sF S).length (nI a)) 1792 (sF S).length (nI b)) 1666 0 (nI ((sF S).length + 1))) := ((Sm.rf.up (by decide)).up (by decide)).up (by decide)
      have a1 : ∀ t, (x_up (x_up (x_up I 1728 (sF S).length (nI a)) 1792 (sF S).length (nI b)) 1666 0 (nI ((sF S).length + 1))) 1728 t = if t = (sF S).length then nI a else I 1728 t := fun t => by
        rw [x_up_ne (by decide), x_up_ne (by decide), x_up_app]; simp
      have a2 : ∀ t, (x_up (x_up (x_up I 1728 (sF S).length (nI a)) 1792 (sF S).length (nI b)) 1666 0 (nI ((sF S).length + 1))) 1792 t = if t = (sF S).length then nI b else I 1792 t := fun t => by
        rw [x_up_ne (by decide), x_up_app, x_up_ne (by decide)]; simp
      have a3 : (x_up (x_up (x_up I 1728 (sF S).length (nI a)) 1792 (sF S).length (nI b)) 1666 0 (nI ((sF S).length + 1))) 1666 0 = nI ((sF S).length + 1) := x_up_at
      generalize (x_up (x_up (x_up I 1728 (sF S).length (nI a)) 1792 (sF S).length (nI b)) 1666 0 (nI ((sF S).length + 1))) = I1 at s1 a1 a2 a3 ⊢
      rw [a3]
      have len1 : ((sF S) ++ [(a, b)]).length = (sF S).length + 1 := by simp
      refine K I1 L (h.setF s1 (fun r hr => hr) ⟨by show ((sF S) ++ [(a, b)]).length ≤ 8; omega, fun p hp => ?_, ?_, fun t ht => ?_⟩)
      · rw [List.mem_append, List.mem_singleton] at hp
        rcases hp with hp | rfl
        · exact f2 p hp
        · exact hsg
      · rw [len1]; exact a3
      · rw [len1] at ht
        rw [show I1 1728 t = _ from a1 t, show I1 1792 t = _ from a2 t]
        by_cases htl : t = (sF S).length
        · subst htl
          rw [if_pos rfl, if_pos rfl]
          have : ((sF S) ++ [(a, b)]).getD (sF S).length (0, 0) = (a, b) := by simp [List.getD]
          rw [this]
          exact ⟨rfl, rfl⟩
        · rw [if_neg htl, if_neg htl]
          have : ((sF S) ++ [(a, b)]).getD t (0, 0) = (sF S).getD t (0, 0) := by
            simp only [List.getD]
            rw [List.getElem?_append_left (by omega)]
          rw [this]
          exact f5 t (by omega)
    · rw [f3'] at z
      rw [if_neg (fun w => z ((i_lt (sF S).length 8 rfl rfl (by omega) (by decide)).mpr w))] at K
      exact K I L h
  refine bX9_push_0 (fun q => absurd rfl (i_neg q (a := a) (by omega))) (fun _ => bX9_push_4 (fun _ => ?_) (fun q => ?_))
  · refine bX9_push_12 (fun z => bX9_push_31 (c_hasNode hG ?_)) (fun z => bX9_push_17 (c_hasLink hG ?_))
    · have ha' : ¬ a = 2 := fun w => z (by rw [w]; rfl)
      rw [if_neg ha'] at no good
      by_cases hbn : b < S.1.1
      · rw [(g_is_iff (n := S.1.1) (by omega)).mpr ⟨b, hbn, rfl⟩]
        exact bX9_push_39 (fun _ => good (decide_eq_true hbn)) (fun w => absurd w (by decide))
      · rw [show g_is S.1.1 (nI b) = false from by
          rw [Bool.eq_false_iff]
          intro w
          obtain ⟨y, hy, e⟩ := (g_is_iff (n := S.1.1) (by omega)).mp w
          rw [nI_eq (by omega) (by omega)] at e
          omega]
        exact bX9_push_39 (fun w => absurd rfl w) (fun _ => bX9_push_42 (no (decide_eq_false hbn)))
    · have ha' : a = 2 := (i_eq a 2 rfl rfl (by omega) (by decide)).mp z
      rw [if_pos ha'] at no good
      by_cases hbn : b < S.1.2.1
      · rw [(g_is_iff (n := S.1.2.1) (by omega)).mpr ⟨b, hbn, rfl⟩]
        exact bX9_push_25 (fun _ => good (decide_eq_true hbn)) (fun w => absurd w (by decide))
      · rw [show g_is S.1.2.1 (nI b) = false from by
          rw [Bool.eq_false_iff]
          intro w
          obtain ⟨y, hy, e⟩ := (g_is_iff (n := S.1.2.1) (by omega)).mp w
          rw [nI_eq (by omega) (by omega)] at e
          omega]
        exact bX9_push_25 (fun w => absurd rfl w) (fun _ => bX9_push_28 (bX9_push_42 (no (decide_eq_false hbn))))
  · exact absurd ((i_le a 2 rfl rfl (by omega) (by decide)).mpr ha) q
theorem k_repairLink {S : q_S} {I : Nat → Nat → Int32} {L : Nat → Int64} {Q : Option Value → (Nat → Nat → Int32) → (Nat → Int64) → Prop} {x y z t : Int32} (hx : g_is S.1.1 x = true) (hy : g_is S.1.2.1 y = false) (h : Cl I S) (K : ∀ (I' : Nat → Nat → Int32) (L' : Nat → Int64), Cl I' (S) → Q (some (.int (-2))) I' L') : XS mX9_repair 0 [(0, .ref 0), (1, .int x), (2, .int y), (3, .int z), (4, .int t)] [] I L Q := by
  obtain ⟨n, ln, lo, hi, c0, c1, U, seen, e, hN, g1, g2, g3, g4, g5⟩ := h.opn
  rw [e] at hx hy
  refine bX9_repair_0 (c_hasNode g1 ?_)
  rw [show g_is n x = true from hx]
  refine bX9_repair_8 (fun q => absurd q (by decide)) (fun _ => bX9_repair_11 (c_hasLink g1 ?_))
  rw [show g_is ln y = false from hy]
  exact bX9_repair_19 (fun _ => bX9_repair_38 (K I L h)) (fun q => absurd rfl q)
theorem k_repairSame {S : q_S} {I : Nat → Nat → Int32} {L : Nat → Int64} {Q : Option Value → (Nat → Nat → Int32) → (Nat → Int64) → Prop} {x y t : Int32} (hx : g_is S.1.1 x = true) (h : Cl I S) (K : ∀ (I' : Nat → Nat → Int32) (L' : Nat → Int64), Cl I' (S) → Q (some (.int (-2))) I' L') : XS mX9_repair 0 [(0, .ref 0), (1, .int x), (2, .int y), (3, .int x), (4, .int t)] [] I L Q := by
  obtain ⟨n, ln, lo, hi, c0, c1, U, seen, e, hN, g1, g2, g3, g4, g5⟩ := h.opn
  rw [e] at hx
  refine bX9_repair_0 (c_hasNode g1 ?_)
  rw [show g_is n x = true from hx]
  refine bX9_repair_8 (fun q => absurd q (by decide)) (fun _ => bX9_repair_11 (c_hasLink g1 ?_))
  cases hb : g_is ln y with
  | false => exact bX9_repair_19 (fun _ => bX9_repair_38 (K I L h)) (fun q => absurd rfl q)
  | true =>
    refine bX9_repair_19 (fun q => absurd q (by decide)) (fun _ => bX9_repair_22 (c_hasNode g1 ?_))
    rw [show g_is n x = true from hx]
    exact bX9_repair_30 (fun q => absurd q (by decide)) (fun _ => bX9_repair_33 (fun q => absurd rfl q) (fun _ => bX9_repair_38 (K I L h)))
