/-! ===== the trace, the short list, protection; deeds ===== -/
theorem Cl.setW {S : q_S} {w' : Nat × (Nat → Nat)} {T : List Nat} {I I' : Nat → Nat → Int32} (h : Cl I S) (hs : Sm T I I') (hT : ∀ r, r ∈ T → r ∈ [1857, 1920]) (ht : qTr I' S.1.1 w') : Cl I' (uW S w') := by
  have s : Sm [1857, 1920] I I' := hs.mono hT
  obtain ⟨h1, h2, h3, h4, h5, h6, h7, h8, h9⟩ := h
  exact ⟨h1, qNe_ag h2 (s.ag (by decide)), h3.ag (s.ag (by decide)), h4.ag (s.ag (by decide)), ht, h6.ag (s.ag (by decide)), h7.ag (s.ag (by decide)), h8.ag (s.ag (by decide)), (s 3136 (by decide)).trans h9⟩
theorem k_untrace {S : q_S} {I : Nat → Nat → Int32} {L : Nat → Int64} {Q : Option Value → (Nat → Nat → Int32) → (Nat → Int64) → Prop} (h : Cl I S) (K : ∀ (I' : Nat → Nat → Int32) (L' : Nat → Int64), Cl I' (uW S (0, (sW S).2)) → Q (some (.int (nI (sW S).1))) I' L') : XS mX9_untrace 0 [(0, .ref 0)] [] I L Q := by
  refine bX9_untrace_0 ?_
  rw [show I 1857 0 = nI (sW S).1 from h.2.2.2.2.1.2.1]
  refine K _ L (h.setW (T := [1857]) (Sm.rf.up (by decide)) (by decide) ⟨by simp, ?_, fun t ht => by omega⟩)
  rw [x_up_at]; rfl
theorem c_rhas {o rl ra N m : Nat} {x : Int32} {I : Nat → Nat → Int32} {L : Nat → Int64} {Q : Option Value → (Nat → Nat → Int32) → (Nat → Int64) → Prop} (h : kR o rl ra N) (hm : I rl 0 = nI m) (hmN : m ≤ N) (K1 : (∃ p, p < m ∧ I ra p = x) → Q (some (.int 1)) I L) (K0 : (∀ p, p < m → I ra p ≠ x) → Q (some (.int 0)) I L) : XS mX6_has 0 [(0, .ref o), (1, .int x)] [] I L Q := by
  obtain ⟨a, A, b, c, d, e, f, g⟩ := id h
  have hm' : I (64 * o + 1) 0 = nI m := by rw [e]; exact hm
  have key : ∀ k j, j + k = m → (∀ p, p < j → I ra p ≠ x) → XS mX6_has 2 [(0, .ref o), (1, .int x), (2, .int (nI j))] [] I L Q := by
    intro k
    induction k with
    | zero =>
      intro j hj hp
      refine bX6_has_2 a (fun _ => bX6_has_28 (K0 (fun p hp' => hp p (by omega)))) (fun q => ?_)
      rw [hm'] at q
      exact absurd ((nI_leI (by omega) (by omega)).mpr (by omega)) q
    | succ k ih =>
      intro j hj hp
      refine bX6_has_2 a (fun q => ?_) (fun _ => bX6_has_10 a b c (vp_in_nI (by omega) g) (fun q => bX6_has_22 ?_) (fun q => bX6_has_20 (K1 ⟨j, by omega, ?_⟩)))
      · rw [hm', nI_leI (by omega) (by omega)] at q; omega
      · rw [nI_clamp (by omega), d] at q
        rw [nI_1]
        refine ih (j + 1) (by omega) (fun p hp' => ?_)
        by_cases hpj : p = j
        · subst hpj; exact q
        · exact hp p (by omega)
      · rw [nI_clamp (by omega), d] at q; exact q
  exact bX6_has_0 (key m 0 (by omega) (fun p hp => by omega))
/-- a node more, or refused: the trace never shrinks, and holds a node behind the first -/
theorem k_trace {S : q_S} {I : Nat → Nat → Int32} {L : Nat → Int64} {Q : Option Value → (Nat → Nat → Int32) → (Nat → Int64) → Prop} {x : Int32} (a : Nat) (hx : x = nI a) (ha : a < S.1.1) (h : Cl I S) (K : ∀ (I' : Nat → Nat → Int32) (L' : Nat → Int64) (w : Nat × (Nat → Nat)) (v : Int32), (sW S).1 ≤ w.1 → 0 < w.1 → Cl I' (uW S w) → Q (some (.int v)) I' L') : XS mX9_trace 0 [(0, .ref 0), (1, .int x)] [] I L Q := by
  subst hx
  obtain ⟨n, ln, lo, hi, c0, c1, U, seen, e, ⟨hN, hc0, hc1, -, -, hU, hS⟩, g1, g2, g3, g4, g5⟩ := h.opn
  have hn8 := hN.2.1
  have hln := hN.2.2.1
  obtain ⟨hm8, t1, t3⟩ := id h.2.2.2.2.1
  rw [e] at ha t3
  have ha : a < n := ha
  have t3 : ∀ p, p < (sW S).1 → (sW S).2 p < n ∧ I 1920 p = nI ((sW S).2 p) := t3
  generalize hgm : (sW S).1 = m at hm8 t1 t3 K
  generalize hgW : (sW S).2 = W at t3
  have hS' : Cl I (uW S (m, W)) := by
    have e9 : uW S (m, W) = S := by rw [← hgm, ← hgW]
    rw [e9]; exact h
  have t1' : I 1857 0 = nI m := t1
  have hWa : ∀ p, p < m → (I 1920 p = nI a ↔ W p = a) := fun p hp => by
    have hw' : W p < n := (t3 p hp).1
    rw [(t3 p hp).2, nI_eq (by omega) (by omega)]
  refine bX9_trace_0 (c_hasNode g1 ?_)
  rw [(g_is_iff (n := n) (by omega)).mpr ⟨a, ha, rfl⟩]
  refine bX9_trace_8 (fun _ => bX9_trace_14 (c_rlast k_traced t1 hm8 (bX9_trace_21 (c_rhas k_traced t1 hm8 (fun hh => ?_) (fun hh => ?_))))) (fun q => absurd q (by decide))
  · obtain ⟨p, hp, e'⟩ := hh
    exact bX9_trace_30 (fun _ => bX9_trace_51 (K I L (m, W) _ (Nat.le_refl _) (by show 0 < m; omega) hS')) (fun q => absurd q (by decide))
  · have put : XS mX9_trace 54 [(0, .ref 0), (1, .int (nI a))] [] I L Q := by
      have hno : ∀ p, p < m → W p ≠ a := fun p hp z => hh p hp ((hWa p hp).mpr z)
      refine bX9_trace_54 (fun q => ?_) (fun q => ?_)
      · rw [t1'] at q
        have hlt := (i_lt m 8 rfl rfl (by omega) (by decide)).mp q
        refine bX9_trace_69 (c_rput' k_traced t1 hlt (bX9_trace_77 ?_))
        have s1 : Sm [1857, 1920] I (x_up (x_up I 1920 m (nI a)) 1857 0 (nI (m + 1))) := (Sm.rf.up (by decide)).up (by decide)
        have a1 : ∀ p, (x_up (x_up I 1920 m (nI a)) 1857 0 (nI (m + 1))) 1920 p = if p = m then nI a else I 1920 p := fun p => by
          rw [x_up_ne (by decide), x_up_app]; simp
        have a2 : (x_up (x_up I 1920 m (nI a)) 1857 0 (nI (m + 1))) 1857 0 = nI (m + 1) := x_up_at
        generalize (x_up (x_up I 1920 m (nI a)) 1857 0 (nI (m + 1))) = I1 at s1 a1 a2 ⊢
        refine K I1 L (m + 1, fun p => if p = m then a else W p) _ (Nat.le_succ _) (Nat.succ_pos _) (h.setW s1 (fun r hr => hr) ⟨by show m + 1 ≤ 8; omega, a2, fun p hp => ?_⟩)
        have hp' : p < m + 1 := hp
        rw [e, show I1 1920 p = _ from a1 p]
        show (if p = m then a else W p) < n ∧ _ = nI (if p = m then a else W p)
        by_cases hpm : p = m
        · rw [if_pos hpm, if_pos hpm]; exact ⟨ha, rfl⟩
        · rw [if_neg hpm, if_neg hpm]; exact t3 p (by omega)
      · rw [t1'] at q
        have hge : ¬ m < 8 := fun w => q ((i_lt m 8 rfl rfl (by omega) (by decide)).mpr w)
        exact bX9_trace_66 (K I L (m, W) _ (Nat.le_refl _) (by show 0 < m; omega) hS')
    refine bX9_trace_30 (fun q => absurd rfl q) (fun _ => ?_)
    by_cases hm0 : m = 0
    · rw [if_pos hm0]
      exact bX9_trace_33 (fun _ => put) (fun q => absurd rfl q)
    · rw [if_neg hm0]
      have hw' : W (m - 1) < n := (t3 (m - 1) (by omega)).1
      rw [(t3 (m - 1) (by omega)).2]
      refine bX9_trace_33 (fun q => absurd q (i_m1ne (by omega))) (fun _ => bX9_trace_38 (c_linkBetween g1 hN (by omega) (by omega) ?_))
      cases hlk : g_lk ln lo hi (W (m - 1)) a with
      | none => exact bX9_trace_47 (fun q => absurd rfl q) (fun _ => bX9_trace_51 (K I L (m, W) _ (Nat.le_refl _) (by show 0 < m; omega) hS'))
      | some l =>
        have := (g_lk_lt hN hlk).1
        exact bX9_trace_47 (fun _ => put) (fun q => absurd q (i_m1ne (by omega)))
theorem k_traceBad {S : q_S} {I : Nat → Nat → Int32} {L : Nat → Int64} {Q : Option Value → (Nat → Nat → Int32) → (Nat → Int64) → Prop} {x : Int32} (hx : g_is S.1.1 x = false) (h : Cl I S) (K : ∀ (I' : Nat → Nat → Int32) (L' : Nat → Int64), Cl I' (S) → Q (some (.int (-2))) I' L') : XS mX9_trace 0 [(0, .ref 0), (1, .int x)] [] I L Q := by
  obtain ⟨n, ln, lo, hi, c0, c1, U, seen, e, hN, g1, g2, g3, g4, g5⟩ := h.opn
  rw [e] at hx
  refine bX9_trace_0 (c_hasNode g1 ?_)
  rw [show g_is n x = false from hx]
  exact bX9_trace_8 (fun q => absurd rfl q) (fun _ => bX9_trace_11 (K I L h))
/-- what brief answers -/
def q_BA (S : q_S) (x r : Int32) : Prop := ∃ b T kd wh, g_BR S.1.1 S.1.2.1 S.1.2.2.1 S.1.2.2.2.1 S.1.2.2.2.2.1 S.1.2.2.2.2.2.1 (sW S).2 S.1.2.2.2.2.2.2.2 (sW S).1 b T kd wh ∧ T ≤ 8 ∧ r = if b = true then g_told T (fun t => 100 * kd t + wh t) x else -4
theorem q_BA_uni {S : q_S} {x r r' : Int32} (hm : (sW S).1 ≤ 8) (h : q_BA S x r) (h' : q_BA S x r') : r = r' := by
  obtain ⟨b, T, kd, wh, h1, h2, rfl⟩ := h
  obtain ⟨b', T', kd', wh', h1', h2', rfl⟩ := h'
  obtain ⟨e1, e2⟩ := g_BR_uni hm h1 h1'
  subst e1
  cases b with
  | false => rw [if_neg (by simp), if_neg (by simp)]
  | true =>
    obtain ⟨e3, e4⟩ := e2 rfl
    subst e3
    rw [if_pos rfl, if_pos rfl]
    exact g_told_congr (by omega) (fun k hk => by rw [(e4 k hk).1, (e4 k hk).2])
noncomputable def oBr (S : q_S) (x : Int32) : Int32 := Classical.epsilon (fun r => q_BA S x r)
theorem oBr_eq {S : q_S} {x r : Int32} (hm : (sW S).1 ≤ 8) (h : q_BA S x r) : oBr S x = r := q_BA_uni hm (Classical.epsilon_spec (p := fun r => q_BA S x r) ⟨r, h⟩) h
theorem k_briefBad {S : q_S} {I : Nat → Nat → Int32} {L : Nat → Int64} {Q : Option Value → (Nat → Nat → Int32) → (Nat → Int64) → Prop} {x : Int32} (hx : x < -1) (h : Cl I S) (K : ∀ (I' : Nat → Nat → Int32) (L' : Nat → Int64), Cl I' (S) → Q (some (.int (-3))) I' L') : XS mX9_brief 0 [(0, .ref 0), (1, .int x)] [] I L Q :=
  bX9_brief_0 (fun q => absurd hx (i_ge_m1.mp q)) (fun _ => bX9_brief_5 (K I L h))
theorem k_brief {S : q_S} {I : Nat → Nat → Int32} {L : Nat → Int64} {Q : Option Value → (Nat → Nat → Int32) → (Nat → Int64) → Prop} {x : Int32} (hx : ¬ x < -1) (h : Cl I S) (K : ∀ (I' : Nat → Nat → Int32) (L' : Nat → Int64), Cl I' S → q_BA S x (oBr S x) → Q (some (.int (oBr S x))) I' L') : XS mX9_brief 0 [(0, .ref 0), (1, .int x)] [] I L Q := by
  have hm8 : (sW S).1 ≤ 8 := h.2.2.2.2.1.1
  obtain ⟨n, ln, lo, hi, c0, c1, U, seen, e, ⟨hN, hc0, hc1, -, -, hU, hS⟩, g1, g2, g3, g4, g5⟩ := h.opn
  obtain ⟨-, t1, t3⟩ := id h.2.2.2.2.1
  rw [e] at t3
  have t3 : ∀ p, p < (sW S).1 → (sW S).2 p < n ∧ I 1920 p = nI ((sW S).2 p) := t3
  refine bX9_brief_0 (fun _ => bX9_brief_8 (c_findBrief g1 hN g2 g3 hc0 hc1 hm8 t1 (fun p hp => ⟨(t3 p hp).2, (t3 p hp).1⟩) (fun u hu => ⟨g5 u hu, hS u hu⟩) (fun I1 b T s1 hr hT => ?_))) (fun q => absurd (i_ge_m1.mpr hx) q)
  have h1 := h.sm s1 (by decide)
  have go : ∀ (v : Int32), q_BA S x v → Q (some (.int v)) I1 L := fun v hv => by
    have := oBr_eq hm8 hv
    subst this
    exact K I1 L h1 hv
  cases b with
  | false =>
    refine bX9_brief_19 (fun _ => bX9_brief_36 (bX9_brief_38 (go _ ⟨false, 0, fun _ => 0, fun _ => 0, ?_, by decide, by rw [if_neg (by simp)]⟩))) (fun q2 => absurd rfl q2)
    rw [e]
    rcases hr with ⟨a1, a2⟩ | ⟨a1, a2⟩
    · exact Or.inl ⟨rfl, a2⟩
    · refine Or.inr ⟨a1, ?_⟩
      rcases a2 with ⟨z, -⟩ | ⟨-, z⟩
      · cases z
      · exact Or.inr ⟨rfl, z⟩
  | true =>
    have hT8 := (g_BR_ok hN (fun p hp => (t3 p hp).1) hr).1
    refine bX9_brief_19 (fun q2 => absurd q2 (by decide)) (fun _ => bX9_brief_22 (c_stold k_found (hT rfl) (by omega) (bX9_brief_33 (bX9_brief_38 (go _ ⟨true, T, _, _, ?_, by omega, by rw [if_pos rfl]⟩)))))
    rw [e]
    exact hr
/-- how many segments: fewer than the trace has nodes -/
theorem q_BA_many {S : q_S} {r : Int32} (hm : (sW S).1 ≤ 8) (h : q_BA S (-1) r) : r = -4 ∨ ∃ T, r = nI T ∧ 0 < (sW S).1 ∧ T + 1 ≤ (sW S).1 ∧ (T = 0 → (sW S).1 = 1) := by
  obtain ⟨b, T, kd, wh, h1, h2, rfl⟩ := h
  cases b with
  | false => exact Or.inl (by rw [if_neg (by simp)])
  | true =>
    refine Or.inr ⟨T, ?_, ?_⟩
    · rw [if_pos rfl]; unfold g_told; rw [if_pos rfl]
    rcases h1 with ⟨z, -⟩ | ⟨a1, a2⟩
    · cases z
    rcases a2 with ⟨-, f, ps, b1, b2, b3, b4, b5⟩ | ⟨z, -⟩
    · have hf := g_sl_f b3.2.2 b3.1 T (Nat.le_refl _)
      rw [b3.2.1] at hf
      have h0 : f ((sW S).1 - 1) = 0 := b1.1
      rw [h0] at hf
      refine ⟨a1, by omega, fun hT => ?_⟩
      subst hT
      have := b3.2.1
      rw [b3.1] at this
      omega
    · cases z
theorem k_protectBad {S : q_S} {I : Nat → Nat → Int32} {L : Nat → Int64} {Q : Option Value → (Nat → Nat → Int32) → (Nat → Int64) → Prop} {x : Int32} (hx : x ≠ 0) (hx1 : x ≠ 1) (h : Cl I S) (K : ∀ (I' : Nat → Nat → Int32) (L' : Nat → Int64), Cl I' (S) → Q (some (.int (-3))) I' L') : XS mX9_protect 0 [(0, .ref 0), (1, .int x)] [] I L Q :=
  bX9_protect_0 (fun q => absurd q hx) (fun _ => bX9_protect_4 (fun q => absurd q hx1) (fun _ => bX9_protect_9 (K I L h)))
theorem k_protect {S : q_S} {I : Nat → Nat → Int32} {L : Nat → Int64} {Q : Option Value → (Nat → Nat → Int32) → (Nat → Int64) → Prop} {x : Int32} (hx : x = 0 ∨ x = 1) (h : Cl I S) (K : ∀ (I' : Nat → Nat → Int32) (L' : Nat → Int64), Cl I' (uP S (decide (x = 1))) → Q (some (.int (i_b (sP S)))) I' L') : XS mX9_protect 0 [(0, .ref 0), (1, .int x)] [] I L Q := by
  have f1 : I 2757 0 = i_b (sP S) := h.2.2.2.2.2.1
  have good : XS mX9_protect 12 [(0, .ref 0), (1, .int x)] [] I L Q := by
    refine bX9_protect_12 ?_
    rw [f1]
    have s : Sm [2757] I (x_up I 2757 0 x) := Sm.rf.up (by decide)
    have e : (x_up I 2757 0 x) 2757 0 = i_b (decide (x = 1)) := by rw [x_up_at]; rcases hx with rfl | rfl <;> rfl
    obtain ⟨h1, h2, h3, h4, h5, h6, h7, h8, h9⟩ := h
    exact K _ L ⟨h1, qNe_ag h2 (s.ag (by decide)), h3.ag (s.ag (by decide)), h4.ag (s.ag (by decide)), h5.ag (s.ag (by decide)), e, h7.ag (s.ag (by decide)), h8.ag (s.ag (by decide)), (s 3136 (by decide)).trans h9⟩
  refine bX9_protect_0 (fun q => good) (fun q => bX9_protect_4 (fun q2 => good) (fun q2 => ?_))
  rcases hx with z | z
  · exact absurd z q
  · exact absurd z q2
/-! ===== deeds ===== -/
theorem c_pkeep {a ah : Nat} {v1 v2 v3 v4 : Int32} {I : Nat → Nat → Int32} {L : Nat → Int64} {Q : Option Value → (Nat → Nat → Int32) → (Nat → Int64) → Prop} (ha : a ≤ 8) (hh : ah < 8) (h1 : I 710 0 = nI a) (h2 : I 709 0 = nI ah)
    (K : ∀ I', Sm [768, 832, 896, 960, 709, 710] I I' → (I' 768 ah = v1 ∧ I' 832 ah = v2 ∧ I' 896 ah = v3 ∧ I' 960 ah = v4) → (∀ p, p ≠ ah → I' 768 p = I 768 p ∧ I' 832 p = I 832 p ∧ I' 896 p = I 896 p ∧ I' 960 p = I 960 p) → I' 709 0 = nI ((ah + 1) % 8) → I' 710 0 = nI (min (a + 1) 8) → Q none I' L) :
    XS mX3_keep 0 [(0, .ref 11), (1, .int v1), (2, .int v2), (3, .int v3), (4, .int v4)] [] I L Q := by
  have e : I 709 0 = nI ah := h2
  have e0 : I 710 0 = nI a := h1
  have k1 : (x_up I 768 ah v1) 709 0 = nI ah := by rw [x_up_ne (by decide)]; exact e
  have k2 : (x_up (x_up I 768 ah v1) 832 ah v2) 709 0 = nI ah := by rw [x_up_ne (by decide)]; exact k1
  have k3 : (x_up (x_up (x_up I 768 ah v1) 832 ah v2) 896 ah v3) 709 0 = nI ah := by rw [x_up_ne (by decide)]; exact k2
  have k4 : (x_up (x_up (x_up (x_up I 768 ah v1) 832 ah v2) 896 ah v3) 960 ah v4) 709 0 = nI ah := by rw [x_up_ne (by decide)]; exact k3
  have s1 : Sm [768, 832, 896, 960] I (x_up (x_up (x_up (x_up I 768 ah v1) 832 ah v2) 896 ah v3) 960 ah v4) := (((Sm.rf.up (by decide)).up (by decide)).up (by decide)).up (by decide)
  have a1 : (x_up (x_up (x_up (x_up I 768 ah v1) 832 ah v2) 896 ah v3) 960 ah v4) 768 ah = v1 ∧ (x_up (x_up (x_up (x_up I 768 ah v1) 832 ah v2) 896 ah v3) 960 ah v4) 832 ah = v2 ∧ (x_up (x_up (x_up (x_up I 768 ah v1) 832 ah v2) 896 ah v3) 960 ah v4) 896 ah = v3 ∧ (x_up (x_up (x_up (x_up I 768 ah v1) 832 ah v2) 896 ah v3) 960 ah v4) 960 ah = v4 :=
    ⟨by rw [x_up_ne (by decide), x_up_ne (by decide), x_up_ne (by decide), x_up_at], by rw [x_up_ne (by decide), x_up_ne (by decide), x_up_at], by rw [x_up_ne (by decide), x_up_at], x_up_at⟩
  have a2 : ∀ p, p ≠ ah → (x_up (x_up (x_up (x_up I 768 ah v1) 832 ah v2) 896 ah v3) 960 ah v4) 768 p = I 768 p ∧ (x_up (x_up (x_up (x_up I 768 ah v1) 832 ah v2) 896 ah v3) 960 ah v4) 832 p = I 832 p ∧ (x_up (x_up (x_up (x_up I 768 ah v1) 832 ah v2) 896 ah v3) 960 ah v4) 896 p = I 896 p ∧ (x_up (x_up (x_up (x_up I 768 ah v1) 832 ah v2) 896 ah v3) 960 ah v4) 960 p = I 960 p := fun p hp =>
    ⟨by rw [x_up_ne (by decide), x_up_ne (by decide), x_up_ne (by decide), x_up_off hp], by rw [x_up_ne (by decide), x_up_ne (by decide), x_up_off hp, x_up_ne (by decide)], by rw [x_up_ne (by decide), x_up_off hp, x_up_ne (by decide), x_up_ne (by decide)], by rw [x_up_off hp, x_up_ne (by decide), x_up_ne (by decide), x_up_ne (by decide)]⟩
  have hgo := @bX3_keep_0 I L Q v1 v2 v3 v4
  rw [e, nI_clamp (by omega), k1, nI_clamp (by omega), k2, nI_clamp (by omega), k3, nI_clamp (by omega), k4] at hgo
  revert hgo
  generalize (x_up (x_up (x_up (x_up I 768 ah v1) 832 ah v2) 896 ah v3) 960 ah v4) = I1 at s1 a1 a2 k4 ⊢
  intro hgo
  have hv : vp_in (nI ah) 8 := vp_in_nI hh (by decide)
  have fin : ∀ s : Int32, s = nI ((ah + 1) % 8) → XS mX3_keep 63 [(0, .ref 11)] [.int s, .ref 11] I1 L Q := by
    rintro s rfl
    have e1 : (x_up I1 709 0 (nI ((ah + 1) % 8))) 710 0 + (1 : Int32) = nI (a + 1) := by rw [x_up_ne (by decide), s1 710 (by decide), e0, nI_1]
    refine bX3_keep_63 ?_
    rw [e1]
    have e2 : (if (8 : Int32) < nI (a + 1) then (8 : Int32) else nI (a + 1)) = nI (min (a + 1) 8) := by
      by_cases q : 8 < a + 1
      · rw [if_pos (show (8 : Int32) < nI (a + 1) from (i_lt 8 (a + 1) rfl rfl (by decide) (by omega)).mpr q), Nat.min_eq_right (by omega)]; rfl
      · rw [if_neg (show ¬ (8 : Int32) < nI (a + 1) from fun z => q ((i_lt 8 (a + 1) rfl rfl (by decide) (by omega)).mp z)), Nat.min_eq_left (by omega)]
    rw [e2]
    refine K _ (((s1.mono (by decide)).up (by decide)).up (by decide)) ?_ (fun p hp => ?_) ?_ ?_
    · rw [x_up_ne (r := 710) (by decide), x_up_ne (r := 709) (by decide), x_up_ne (r := 710) (by decide), x_up_ne (r := 709) (by decide), x_up_ne (r := 710) (by decide), x_up_ne (r := 709) (by decide), x_up_ne (r := 710) (by decide), x_up_ne (r := 709) (by decide)]
      exact a1
    · rw [x_up_ne (r := 710) (by decide), x_up_ne (r := 709) (by decide), x_up_ne (r := 710) (by decide), x_up_ne (r := 709) (by decide), x_up_ne (r := 710) (by decide), x_up_ne (r := 709) (by decide), x_up_ne (r := 710) (by decide), x_up_ne (r := 709) (by decide)]
      exact a2 p hp
    · rw [x_up_ne (by decide), x_up_at]
    · rw [x_up_at]
  refine hgo hv hv hv hv (fun q => bX3_keep_62 (fin 0 ?_)) (fun q => bX3_keep_53 (fin _ ?_))
  · rw [nI_1] at q
    have := (i_le 8 (ah + 1) rfl rfl (by decide) (by omega)).mp q
    rw [show (ah + 1) % 8 = 0 by omega]; rfl
  · rw [nI_1] at q
    have : ¬ 8 ≤ ah + 1 := fun z => q ((i_le 8 (ah + 1) rfl rfl (by decide) (by omega)).mpr z)
    rw [k4, nI_1, show (ah + 1) % 8 = ah + 1 by omega]
def g_psh (h0 : g_H) (H : Nat → g_H) : Nat → g_H
  | 0 => h0
  | i + 1 => H i
theorem qPa_push {n ln : Nat} {lo hi c0 c1 c0' c1' : Nat → Nat} {U U' : Nat} {seen seen' : Nat → Nat} {a ah : Nat} {H : Nat → g_H} {I I' : Nat → Nat → Int32} (ha : a ≤ 8) (hh : ah < 8) (hH : H 0 = (U, c0, c1, seen)) (hok : g_okS (n, ln, lo, hi, c0, c1, U, seen))
    (h7 : ∀ i, i < a → g_okS (g_hs (n, ln, lo, hi, c0, c1, U, seen) (H (i + 1))) ∧ cDl I n ln ((ah + 7 - i) % 8) (H i) (H (i + 1)))
    (e1 : I' 710 0 = nI (min (a + 1) 8)) (e2 : I' 709 0 = nI ((ah + 1) % 8)) (d : cDl I' n ln ah (U', c0', c1', seen') (U, c0, c1, seen))
    (hp : ∀ p, p ≠ ah → I' 768 p = I 768 p ∧ I' 832 p = I 832 p ∧ I' 896 p = I 896 p ∧ I' 960 p = I 960 p) :
    qPa I' (n, ln, lo, hi, c0', c1', U', seen') (min (a + 1) 8, g_psh (U', c0', c1', seen') H) := by
  refine ⟨(ah + 1) % 8, by show min (a + 1) 8 ≤ 8; omega, by omega, e1, e2, rfl, fun i hia => ?_⟩
  have hia : i < min (a + 1) 8 := hia
  cases i with
  | zero =>
    refine ⟨?_, ?_⟩
    · show g_okS (g_hs (n, ln, lo, hi, c0', c1', U', seen') (H 0))
      rw [hH]
      exact hok
    · show cDl I' n ln (((ah + 1) % 8 + 7 - 0) % 8) (U', c0', c1', seen') (H 0)
      rw [hH, show ((ah + 1) % 8 + 7 - 0) % 8 = ah by omega]
      exact d
  | succ i =>
    obtain ⟨g1, g2⟩ := h7 i (by omega)
    refine ⟨g1, ?_⟩
    show cDl I' n ln (((ah + 1) % 8 + 7 - (i + 1)) % 8) (H i) (H (i + 1))
    have hpos : ((ah + 1) % 8 + 7 - (i + 1)) % 8 = (ah + 7 - i) % 8 := by omega
    rw [hpos]
    obtain ⟨q1, q2, q3, q4⟩ := hp ((ah + 7 - i) % 8) (by omega)
    exact g2.ag q1 q2 q3 q4
/-- behind a deed: the net is σ', one more can be undone, eight at most -/
def q_do (S : q_S) (σ' : g_St) : q_S := (σ', S.2.1, S.2.2.1, S.2.2.2.1, (min ((sA S).1 + 1) 8, g_psh (g_ho σ') (sA S).2), S.2.2.2.2.2)
theorem g_set_back (f : Nat → Nat) (l v : Nat) : f = g_set (g_set f l v) l (f l) := by
  funext j
  unfold g_set
  by_cases h : j = l
  · subst h; simp
  · simp [h]
def q_up (σ : g_St) (U' : Nat) : g_St := (σ.1, σ.2.1, σ.2.2.1, σ.2.2.2.1, σ.2.2.2.2.1, σ.2.2.2.2.2.1, U', σ.2.2.2.2.2.2.2)
theorem k_turn {S : q_S} {I : Nat → Nat → Int32} {L : Nat → Int64} {Q : Option Value → (Nat → Nat → Int32) → (Nat → Int64) → Prop} (l : Nat) (hl : l < S.1.2.1) (h : Cl I S) (K : ∀ (I' : Nat → Nat → Int32) (L' : Nat → Int64) (v : Nat), v < 100 → Cl I' (q_do S (q_up S.1 (S.1.2.2.2.2.2.2.1 ^^^ 2 ^ l))) → Q (some (.int (nI v))) I' L') : XS mX9_turn 0 [(0, .ref 0), (1, .int (nI l))] [] I L Q := by
  obtain ⟨⟨n, ln, lo, hi, c0, c1, U, seen⟩, F, w, pr, ⟨a, H⟩, z, t, G⟩ := S
  obtain ⟨h1, h2, h3, h4, h5, h6, ⟨ah, p1, p2, p3, p4, p6, p7⟩, h8, h9⟩ := h
  obtain ⟨hN, hc0, hc1, hU14, hS14, hU, hS⟩ := g_okS_eN h1
  obtain ⟨g1, g2, g3, g4, g5⟩ := id h2
  have hl : l < ln := hl
  have hln := hN.2.2.1
  have hpow : 2 ^ l < 2 ^ ln := Nat.pow_lt_pow_right (by omega) hl
  have hU' : U ^^^ 2 ^ l < 2 ^ ln := Nat.xor_lt_two_pow h1.2.2.2.1 hpow
  have hU2 : U ^^^ 2 ^ l < 2 ^ 14 := Nat.lt_of_lt_of_le hU' (Nat.pow_le_pow_right (by omega) hln)
  have e66 : I 66 0 = nI U := g4
  refine bX9_turn_0 (bX3_keepUp_0 (c_pkeep p1 p2 p3 p4 (fun I1 s1 d1 d2 d3 d4 => bX3_keepUp_14 (bX9_turn_7 ?_))))
  have f66 : I1 66 0 = nI U := by rw [s1 66 (by decide)]; exact e66
  rw [f66, i_1shl (by omega), i_xor, x_up_at]
  have s2 : Sm [768, 832, 896, 960, 709, 710, 66] I (x_up I1 66 0 (nI (U ^^^ 2 ^ l))) := (s1.mono (by decide)).up (by decide)
  have a2 : (x_up I1 66 0 (nI (U ^^^ 2 ^ l))) 66 0 = nI (U ^^^ 2 ^ l) := x_up_at
  have a3 : Sm [66] I1 (x_up I1 66 0 (nI (U ^^^ 2 ^ l))) := Sm.rf.up (by decide)
  generalize (x_up I1 66 0 (nI (U ^^^ 2 ^ l))) = I2 at s2 a2 a3 ⊢
  have hpc : g_pc 32 (U ^^^ 2 ^ l) < 100 := by have := g_pc_le 32 (U ^^^ 2 ^ l); omega
  refine c_bitCount (by omega) (bX9_turn_32 (K I2 L _ hpc ⟨⟨h1.1, h1.2.1, h1.2.2.1, hU', h1.2.2.2.2⟩, ⟨g1.sm s2 (by decide) (by decide) (by decide) (by decide), fun j hj => ?_, fun j hj => ?_, a2, fun u hu => ?_⟩, h3.ag (s2.ag (by decide)), h4.ag (s2.ag (by decide)), h5.ag (s2.ag (by decide)), h6.ag (s2.ag (by decide)), ?_, h8.ag (s2.ag (by decide)), (s2 3136 (by decide)).trans h9⟩))
  · rw [s2 _ (by decide)]; exact g2 j hj
  · rw [s2 _ (by decide)]; exact g3 j hj
  · rw [s2 _ (by decide)]; exact g5 u hu
  · refine qPa_push (H := H) (U := U) (c0 := c0) (c1 := c1) (seen := seen) (I := I) p1 p2 p6 h1 p7 ?_ ?_ (Or.inl ⟨?_, U, ?_, rfl⟩) (fun p hp => ?_)
    · rw [a3 _ (by decide)]; exact d4
    · rw [a3 _ (by decide)]; exact d3
    · rw [a3 _ (by decide)]; exact d1.1
    · rw [a3 _ (by decide)]; exact d1.2.2.1.trans e66
    · rw [a3 768 (by decide), a3 832 (by decide), a3 896 (by decide), a3 960 (by decide)]; exact d2 p hp
/-- of a deed: refused, nothing becomes other; done, the net is another one -/
def q_Dd (S : q_S) (Q : Option Value → (Nat → Nat → Int32) → (Nat → Int64) → Prop) : Prop := ∀ (I' : Nat → Nat → Int32) (L' : Nat → Int64) (v : Int32), ((v < 0 ∧ Cl I' S) ∨ (¬ v < 0 ∧ ∃ σ', σ'.1 = S.1.1 ∧ σ'.2.1 = S.1.2.1 ∧ σ'.2.2.1 = S.1.2.2.1 ∧ σ'.2.2.2.1 = S.1.2.2.2.1 ∧ Cl I' (q_do S σ'))) → Q (some (.int v)) I' L'
theorem nI_nneg {v : Nat} (h : v < 2 ^ 31) : ¬ nI v < 0 := fun q => absurd rfl (i_neg q (a := v) h)
theorem k_failBad {S : q_S} {I : Nat → Nat → Int32} {L : Nat → Int64} {Q : Option Value → (Nat → Nat → Int32) → (Nat → Int64) → Prop} {x : Int32} (hx : g_is S.1.2.1 x = false) (h : Cl I S) (K : ∀ (I' : Nat → Nat → Int32) (L' : Nat → Int64), Cl I' (S) → Q (some (.int (-2))) I' L') : XS mX9_fail 0 [(0, .ref 0), (1, .int x)] [] I L Q := by
  obtain ⟨n, ln, lo, hi, c0, c1, U, seen, e, hN, g1, g2, g3, g4, g5⟩ := h.opn
  rw [e] at hx
  refine bX9_fail_0 (c_hasLink g1 ?_)
  rw [show g_is ln x = false from hx]
  exact bX9_fail_8 (fun q => absurd rfl q) (fun _ => bX9_fail_11 (K I L h))
theorem k_healBad {S : q_S} {I : Nat → Nat → Int32} {L : Nat → Int64} {Q : Option Value → (Nat → Nat → Int32) → (Nat → Int64) → Prop} {x : Int32} (hx : g_is S.1.2.1 x = false) (h : Cl I S) (K : ∀ (I' : Nat → Nat → Int32) (L' : Nat → Int64), Cl I' (S) → Q (some (.int (-2))) I' L') : XS mX9_heal 0 [(0, .ref 0), (1, .int x)] [] I L Q := by
  obtain ⟨n, ln, lo, hi, c0, c1, U, seen, e, hN, g1, g2, g3, g4, g5⟩ := h.opn
  rw [e] at hx
  refine bX9_heal_0 (c_hasLink g1 ?_)
  rw [show g_is ln x = false from hx]
  exact bX9_heal_8 (fun q => absurd rfl q) (fun _ => bX9_heal_11 (K I L h))
theorem k_failNot {S : q_S} {I : Nat → Nat → Int32} {L : Nat → Int64} {Q : Option Value → (Nat → Nat → Int32) → (Nat → Int64) → Prop} {x : Int32} (l : Nat) (hx : x = nI l) (hl : l < S.1.2.1) (hb : S.1.2.2.2.2.2.2.1.testBit l = false) (h : Cl I S) (K : ∀ (I' : Nat → Nat → Int32) (L' : Nat → Int64), Cl I' (S) → Q (some (.int (-4))) I' L') : XS mX9_fail 0 [(0, .ref 0), (1, .int x)] [] I L Q := by
  subst hx
  obtain ⟨n, ln, lo, hi, c0, c1, U, seen, e, ⟨hN, -, -, -, -, hU, -⟩, g1, g2, g3, g4, g5⟩ := h.opn
  have hln := hN.2.2.1
  rw [e] at hl hb
  have hl : l < ln := hl
  refine bX9_fail_0 (c_hasLink g1 ?_)
  rw [(g_is_iff (n := ln) (by omega)).mpr ⟨l, hl, rfl⟩]
  refine bX9_fail_8 (fun _ => bX9_fail_14 (c_isUp g4 hU (by omega) ?_)) (fun q => absurd q (by decide))
  rw [show U.testBit l = false from hb]
  exact bX9_fail_22 (fun _ => bX9_fail_33 (bX9_fail_35 (K I L h))) (fun q => absurd rfl q)
theorem k_healNot {S : q_S} {I : Nat → Nat → Int32} {L : Nat → Int64} {Q : Option Value → (Nat → Nat → Int32) → (Nat → Int64) → Prop} {x : Int32} (l : Nat) (hx : x = nI l) (hl : l < S.1.2.1) (hb : S.1.2.2.2.2.2.2.1.testBit l = true) (h : Cl I S) (K : ∀ (I' : Nat → Nat → Int32) (L' : Nat → Int64), Cl I' (S) → Q (some (.int (-4))) I' L') : XS mX9_heal 0 [(0, .ref 0), (1, .int x)] [] I L Q := by
  subst hx
  obtain ⟨n, ln, lo, hi, c0, c1, U, seen, e, ⟨hN, -, -, -, -, hU, -⟩, g1, g2, g3, g4, g5⟩ := h.opn
  have hln := hN.2.2.1
  rw [e] at hl hb
  have hl : l < ln := hl
  refine bX9_heal_0 (c_hasLink g1 ?_)
  rw [(g_is_iff (n := ln) (by omega)).mpr ⟨l, hl, rfl⟩]
  refine bX9_heal_8 (fun _ => bX9_heal_14 (c_isUp g4 hU (by omega) ?_)) (fun q => absurd q (by decide))
  rw [show U.testBit l = true from hb]
  exact bX9_heal_22 (fun q => absurd q (by decide)) (fun _ => bX9_heal_25 (bX9_heal_35 (K I L h)))
theorem k_fail {S : q_S} {I : Nat → Nat → Int32} {L : Nat → Int64} {Q : Option Value → (Nat → Nat → Int32) → (Nat → Int64) → Prop} {x : Int32} (l : Nat) (hx : x = nI l) (hl2 : l < 2 ^ 31) (h : Cl I S) (K : q_Dd S Q) : XS mX9_fail 0 [(0, .ref 0), (1, .int x)] [] I L Q := by
  subst hx
  have h' := h
  obtain ⟨n, ln, lo, hi, c0, c1, U, seen, e, ⟨hN, -, -, -, -, hU, -⟩, g1, g2, g3, g4, g5⟩ := h.opn
  have hln := hN.2.2.1
  have neg : ∀ v : Int32, v < 0 → Q (some (.int v)) I L := fun v hv => K I L v (Or.inl ⟨hv, h'⟩)
  by_cases hl : l < ln
  · refine bX9_fail_0 (c_hasLink g1 ?_)
    rw [(g_is_iff (n := ln) (by omega)).mpr ⟨l, hl, rfl⟩]
    refine bX9_fail_8 (fun _ => bX9_fail_14 (c_isUp g4 hU (by omega) ?_)) (fun q => absurd q (by decide))
    cases hb : U.testBit l with
    | false => exact bX9_fail_22 (fun _ => bX9_fail_33 (bX9_fail_35 (neg _ (by decide)))) (fun q => absurd rfl q)
    | true => exact bX9_fail_22 (fun q => absurd q (by decide)) (fun _ => bX9_fail_25 (k_turn l (by rw [e]; exact hl) h (fun I1 L1 v hv h1 => bX9_fail_30 (bX9_fail_35 (K I1 L1 _ (Or.inr ⟨nI_nneg (by omega), q_up S.1 (S.1.2.2.2.2.2.2.1 ^^^ 2 ^ l), rfl, rfl, rfl, rfl, h1⟩))))))
  · refine k_failBad ?_ h (fun I1 L1 h1 => K I1 L1 _ (Or.inl ⟨by decide, h1⟩))
    rw [e, Bool.eq_false_iff]
    intro w
    obtain ⟨y, hy, e⟩ := (g_is_iff (n := ln) (by omega)).mp w
    rw [nI_eq (by omega) (by omega)] at e
    omega
theorem k_heal {S : q_S} {I : Nat → Nat → Int32} {L : Nat → Int64} {Q : Option Value → (Nat → Nat → Int32) → (Nat → Int64) → Prop} {x : Int32} (l : Nat) (hx : x = nI l) (hl2 : l < 2 ^ 31) (h : Cl I S) (K : q_Dd S Q) : XS mX9_heal 0 [(0, .ref 0), (1, .int x)] [] I L Q := by
  subst hx
  have h' := h
  obtain ⟨n, ln, lo, hi, c0, c1, U, seen, e, ⟨hN, -, -, -, -, hU, -⟩, g1, g2, g3, g4, g5⟩ := h.opn
  have hln := hN.2.2.1
  have neg : ∀ v : Int32, v < 0 → Q (some (.int v)) I L := fun v hv => K I L v (Or.inl ⟨hv, h'⟩)
  by_cases hl : l < ln
  · refine bX9_heal_0 (c_hasLink g1 ?_)
    rw [(g_is_iff (n := ln) (by omega)).mpr ⟨l, hl, rfl⟩]
    refine bX9_heal_8 (fun _ => bX9_heal_14 (c_isUp g4 hU (by omega) ?_)) (fun q => absurd q (by decide))
    cases hb : U.testBit l with
    | true => exact bX9_heal_22 (fun q => absurd q (by decide)) (fun _ => bX9_heal_25 (bX9_heal_35 (neg _ (by decide))))
    | false => exact bX9_heal_22 (fun _ => bX9_heal_30 (k_turn l (by rw [e]; exact hl) h (fun I1 L1 v hv h1 => bX9_heal_35 (K I1 L1 _ (Or.inr ⟨nI_nneg (by omega), q_up S.1 (S.1.2.2.2.2.2.2.1 ^^^ 2 ^ l), rfl, rfl, rfl, rfl, h1⟩))))) (fun q => absurd rfl q)
  · refine k_healBad ?_ h (fun I1 L1 h1 => K I1 L1 _ (Or.inl ⟨by decide, h1⟩))
    rw [e, Bool.eq_false_iff]
    intro w
    obtain ⟨y, hy, e⟩ := (g_is_iff (n := ln) (by omega)).mp w
    rw [nI_eq (by omega) (by omega)] at e
    omega
theorem k_tuneBad {S : q_S} {I : Nat → Nat → Int32} {L : Nat → Int64} {Q : Option Value → (Nat → Nat → Int32) → (Nat → Int64) → Prop} {x y z : Int32} (hx : g_is S.1.2.1 x = false) (h : Cl I S) (K : ∀ (I' : Nat → Nat → Int32) (L' : Nat → Int64), Cl I' (S) → Q (some (.int (-2))) I' L') : XS mX9_tune 0 [(0, .ref 0), (1, .int x), (2, .int y), (3, .int z)] [] I L Q := by
  obtain ⟨n, ln, lo, hi, c0, c1, U, seen, e, hN, g1, g2, g3, g4, g5⟩ := h.opn
  rw [e] at hx
  refine bX9_tune_0 (c_hasLink g1 ?_)
  rw [show g_is ln x = false from hx]
  exact bX9_tune_8 (fun q => absurd rfl q) (fun _ => bX9_tune_11 (K I L h))
theorem i_19 {x : Int32} (h : ¬ x < 1 ∧ ¬ (9 : Int32) < x) : ∃ c, 1 ≤ c ∧ c ≤ 9 ∧ x = nI c := by
  rcases i_cases x with q | ⟨a, ha, rfl⟩
  · exfalso
    apply h.1
    rw [Int32.lt_iff_toInt_lt] at q ⊢
    have e0 : (0 : Int32).toInt = 0 := by decide
    have e1 : (1 : Int32).toInt = 1 := by decide
    omega
  · refine ⟨a, ?_, ?_, rfl⟩
    · have : ¬ a < 1 := fun z => h.1 ((i_lt a 1 rfl rfl ha (by decide)).mpr z)
      omega
    · have : ¬ 9 < a := fun z => h.2 ((i_lt 9 a rfl rfl (by decide) ha).mpr z)
      omega
theorem k_tune {S : q_S} {I : Nat → Nat → Int32} {L : Nat → Int64} {Q : Option Value → (Nat → Nat → Int32) → (Nat → Int64) → Prop} {x y z : Int32} (l : Nat) (hx : x = nI l) (hl2 : l < 2 ^ 31) (h : Cl I S) (K : q_Dd S Q) : XS mX9_tune 0 [(0, .ref 0), (1, .int x), (2, .int y), (3, .int z)] [] I L Q := by
  subst hx
  by_cases hl : l < S.1.2.1
  · have neg : ∀ v : Int32, v < 0 → Q (some (.int v)) I L := fun v hv => K I L v (Or.inl ⟨hv, h⟩)
    obtain ⟨⟨n, ln, lo, hi, c0, c1, U, seen⟩, F, w, pr, ⟨a, H⟩, zz, t, G⟩ := S
    obtain ⟨h1, h2, h3, h4, h5, h6, ⟨ah, p1, p2, p3, p4, p6, p7⟩, h8, h9⟩ := h
    obtain ⟨hN, hc0, hc1, hU14, hS14, hU, hS⟩ := g_okS_eN h1
    obtain ⟨g1, g2, g3, g4, g5⟩ := id h2
    have hl : l < ln := hl
    have hln := hN.2.2.1
    refine bX9_tune_0 (c_hasLink g1 ?_)
    rw [(g_is_iff (n := ln) (by omega)).mpr ⟨l, hl, rfl⟩]
    have bad : XS mX9_tune 36 [] [] I L Q := bX9_tune_36 (neg _ (by decide))
    refine bX9_tune_8 (fun _ => bX9_tune_14 (fun q => bad) (fun q1 => bX9_tune_19 (fun q => bad) (fun q2 => bX9_tune_25 (fun q => bad) (fun q3 => bX9_tune_30 (fun q4 => ?_) (fun q => bad))))) (fun q => absurd q (by decide))
    have q4' : ¬ (9 : Int32) < z := Int32.not_lt.mpr q4
    obtain ⟨c, hc1', hc9, rfl⟩ := i_19 ⟨q1, q2⟩
    obtain ⟨d, hd1, hd9, rfl⟩ := i_19 ⟨q3, q4'⟩
    have hv : vp_in (nI l) 14 := vp_in_nI (by omega) (by decide)
    have e256 : I 256 l = nI (c0 l) := g2 l hl
    have e320 : I 320 l = nI (c1 l) := g3 l hl
    have hcl : c0 l < 2 ^ 31 := by have := hc0 l hl; omega
    refine bX9_tune_39 hv (bX3_keepPrices_0 hv hv ?_)
    rw [nI_clamp (by omega), e256, e320]
    refine c_pkeep p1 p2 p3 p4 (fun I1 s1 d1 d2 d3 d4 => bX3_keepPrices_24 (bX9_tune_58 hv hv ?_))
    rw [nI_clamp (by omega)]
    have a3 : Sm [256, 320] I1 (x_up (x_up I1 256 l (nI c)) 320 l (nI d)) := (Sm.rf.up (by decide)).up (by decide)
    have a4 : ∀ j, (x_up (x_up I1 256 l (nI c)) 320 l (nI d)) 256 j = (if j = l then nI c else I1 256 j) ∧ (x_up (x_up I1 256 l (nI c)) 320 l (nI d)) 320 j = (if j = l then nI d else I1 320 j) := fun j => by
      constructor
      · rw [x_up_ne (by decide), x_up_app]; simp
      · rw [x_up_app, x_up_ne (by decide)]; simp
    generalize (x_up (x_up I1 256 l (nI c)) 320 l (nI d)) = I2 at a3 a4 ⊢
    have s2 : Sm [768, 832, 896, 960, 709, 710, 256, 320] I I2 := (s1.mono (by decide)).tr (a3.mono (by decide))
    refine K I2 L _ (Or.inr ⟨nI_nneg hcl, (n, ln, lo, hi, g_set c0 l c, g_set c1 l d, U, seen), rfl, rfl, rfl, rfl, ⟨h1.1, fun j hj => ?_, fun j hj => ?_, h1.2.2.2.1, h1.2.2.2.2⟩, ⟨g1.sm s2 (by decide) (by decide) (by decide) (by decide), fun j hj => ?_, fun j hj => ?_, ?_, fun u hu => ?_⟩, h3.ag (s2.ag (by decide)), h4.ag (s2.ag (by decide)), h5.ag (s2.ag (by decide)), h6.ag (s2.ag (by decide)), ?_, h8.ag (s2.ag (by decide)), (s2 3136 (by decide)).trans h9⟩)
    · show 1 ≤ g_set c0 l c j ∧ g_set c0 l c j ≤ 9
      by_cases hjl : j = l
      · rw [hjl, g_set_at]; omega
      · rw [g_set_off hjl]; exact hc0 j hj
    · show 1 ≤ g_set c1 l d j ∧ g_set c1 l d j ≤ 9
      by_cases hjl : j = l
      · rw [hjl, g_set_at]; omega
      · rw [g_set_off hjl]; exact hc1 j hj
    · show I2 256 j = nI (g_set c0 l c j)
      rw [(a4 j).1, s1 256 (by decide)]
      by_cases hjl : j = l
      · rw [if_pos hjl, hjl, g_set_at]
      · rw [if_neg hjl, g_set_off hjl]; exact g2 j hj
    · show I2 320 j = nI (g_set c1 l d j)
      rw [(a4 j).2, s1 320 (by decide)]
      by_cases hjl : j = l
      · rw [if_pos hjl, hjl, g_set_at]
      · rw [if_neg hjl, g_set_off hjl]; exact g3 j hj
    · rw [s2 _ (by decide)]; exact g4
    · rw [s2 _ (by decide)]; exact g5 u hu
    · refine qPa_push (H := H) (U := U) (c0 := c0) (c1 := c1) (seen := seen) (I := I) p1 p2 p6 h1 p7 ?_ ?_ (Or.inr (Or.inl ⟨?_, l, c0 l, c1 l, hl, ?_, ?_, ?_, ?_⟩)) (fun p hp => ?_)
      · rw [a3 _ (by decide)]; exact d4
      · rw [a3 _ (by decide)]; exact d3
      · rw [a3 _ (by decide)]; exact d1.1
      · rw [a3 _ (by decide)]; exact d1.2.1
      · rw [a3 _ (by decide)]; exact d1.2.2.1
      · rw [a3 _ (by decide)]; exact d1.2.2.2
      · show (U, c0, c1, seen) = (U, g_set (g_set c0 l c) l (c0 l), g_set (g_set c1 l d) l (c1 l), seen)
        rw [← g_set_back c0 l c, ← g_set_back c1 l d]
      · rw [a3 768 (by decide), a3 832 (by decide), a3 896 (by decide), a3 960 (by decide)]; exact d2 p hp
  · have hln := (g_okS_E h.1).2.2.1
    refine k_tuneBad ?_ h (fun I1 L1 h1 => K I1 L1 _ (Or.inl ⟨by decide, h1⟩))
    rw [Bool.eq_false_iff]
    intro w
    obtain ⟨y, hy, e⟩ := (g_is_iff (n := S.1.2.1) (by omega)).mp w
    rw [nI_eq (by omega) (by omega)] at e
    omega
theorem k_learnBad {S : q_S} {I : Nat → Nat → Int32} {L : Nat → Int64} {Q : Option Value → (Nat → Nat → Int32) → (Nat → Int64) → Prop} {x : Int32} (hx : g_is S.1.1 x = false) (h : Cl I S) (K : ∀ (I' : Nat → Nat → Int32) (L' : Nat → Int64), Cl I' (S) → Q (some (.int (-2))) I' L') : XS mX9_learn 0 [(0, .ref 0), (1, .int x)] [] I L Q := by
  obtain ⟨n, ln, lo, hi, c0, c1, U, seen, e, hN, g1, g2, g3, g4, g5⟩ := h.opn
  rw [e] at hx
  refine bX9_learn_0 (c_hasNode g1 ?_)
  rw [show g_is n x = false from hx]
  exact bX9_learn_8 (fun q => absurd rfl q) (fun _ => bX9_learn_11 (K I L h))
def q_le (σ : g_St) (u : Nat) : g_St := (σ.1, σ.2.1, σ.2.2.1, σ.2.2.2.1, σ.2.2.2.2.1, σ.2.2.2.2.2.1, σ.2.2.2.2.2.2.1, g_set σ.2.2.2.2.2.2.2 u σ.2.2.2.2.2.2.1)
theorem k_learn {S : q_S} {I : Nat → Nat → Int32} {L : Nat → Int64} {Q : Option Value → (Nat → Nat → Int32) → (Nat → Int64) → Prop} {x : Int32} (u : Nat) (hx : x = nI u) (hu : u < S.1.1) (h : Cl I S) (K : ∀ (I' : Nat → Nat → Int32) (L' : Nat → Int64) (v : Nat), v < 100 → Cl I' (q_do S (q_le S.1 u)) → Q (some (.int (nI v))) I' L') : XS mX9_learn 0 [(0, .ref 0), (1, .int x)] [] I L Q := by
  subst hx
  obtain ⟨⟨n, ln, lo, hi, c0, c1, U, seen⟩, F, w, pr, ⟨a, H⟩, zz, t, G⟩ := S
  obtain ⟨h1, h2, h3, h4, h5, h6, ⟨ah, p1, p2, p3, p4, p6, p7⟩, h8, h9⟩ := h
  obtain ⟨hN, hc0, hc1, hU14, hS14, hU, hS⟩ := g_okS_eN h1
  obtain ⟨g1, g2, g3, g4, g5⟩ := id h2
  have hu : u < n := hu
  have hn8 := hN.2.1
  have hv : vp_in (nI u) 8 := vp_in_nI (by omega) (by decide)
  have e448 : I 448 u = nI (seen u) := g5 u hu
  have e66 : I 66 0 = nI U := g4
  have hxr : seen u ^^^ U < 2 ^ 14 := Nat.xor_lt_two_pow (hS14 u hu) hU14
  refine bX9_learn_0 (c_hasNode g1 ?_)
  rw [(g_is_iff (n := n) (by omega)).mpr ⟨u, hu, rfl⟩]
  refine bX9_learn_8 (fun _ => bX9_learn_14 hv ?_) (fun q => absurd q (by decide))
  rw [nI_clamp (by omega), e448, e66, i_xor]
  have hpc : g_pc 32 (seen u ^^^ U) < 100 := by have := g_pc_le 32 (seen u ^^^ U); omega
  refine c_bitCount (by omega) (bX9_learn_34 (bX3_keepSeen_0 hv ?_))
  rw [nI_clamp (by omega), e448]
  refine c_pkeep p1 p2 p3 p4 (fun I1 s1 d1 d2 d3 d4 => bX3_keepSeen_16 (bX9_learn_43 hv ?_))
  rw [nI_clamp (by omega), s1 66 (by decide), e66]
  have a3 : Sm [448] I1 (x_up I1 448 u (nI U)) := Sm.rf.up (by decide)
  have a4 : ∀ j, (x_up I1 448 u (nI U)) 448 j = (if j = u then nI U else I1 448 j) := fun j => by
    rw [x_up_app]; simp
  generalize (x_up I1 448 u (nI U)) = I2 at a3 a4 ⊢
  have s2 : Sm [768, 832, 896, 960, 709, 710, 448] I I2 := (s1.mono (by decide)).tr (a3.mono (by decide))
  refine K I2 L _ hpc ⟨⟨h1.1, h1.2.1, h1.2.2.1, h1.2.2.2.1, fun j hj => ?_⟩, ⟨g1.sm s2 (by decide) (by decide) (by decide) (by decide), fun j hj => ?_, fun j hj => ?_, ?_, fun w hw => ?_⟩, h3.ag (s2.ag (by decide)), h4.ag (s2.ag (by decide)), h5.ag (s2.ag (by decide)), h6.ag (s2.ag (by decide)), ?_, h8.ag (s2.ag (by decide)), (s2 3136 (by decide)).trans h9⟩
  · show g_set seen u U j < 2 ^ ln
    by_cases hju : j = u
    · rw [hju, g_set_at]; exact h1.2.2.2.1
    · rw [g_set_off hju]; exact h1.2.2.2.2 j hj
  · rw [s2 _ (by decide)]; exact g2 j hj
  · rw [s2 _ (by decide)]; exact g3 j hj
  · rw [s2 _ (by decide)]; exact g4
  · show I2 448 w = nI (g_set seen u U w)
    rw [a4 w, s1 448 (by decide)]
    by_cases hwu : w = u
    · rw [if_pos hwu, hwu, g_set_at]
    · rw [if_neg hwu, g_set_off hwu]; exact g5 w hw
  · refine qPa_push (H := H) (U := U) (c0 := c0) (c1 := c1) (seen := seen) (I := I) p1 p2 p6 h1 p7 ?_ ?_ (Or.inr (Or.inr ⟨?_, u, seen u, hu, ?_, ?_, ?_⟩)) (fun p hp => ?_)
    · rw [a3 _ (by decide)]; exact d4
    · rw [a3 _ (by decide)]; exact d3
    · rw [a3 _ (by decide)]; exact d1.1
    · rw [a3 _ (by decide)]; exact d1.2.1
    · rw [a3 _ (by decide)]; exact d1.2.2.1
    · show (U, c0, c1, seen) = (U, c0, c1, g_set (g_set seen u U) u (seen u))
      rw [← g_set_back seen u U]
    · rw [a3 768 (by decide), a3 832 (by decide), a3 896 (by decide), a3 960 (by decide)]; exact d2 p hp
theorem c_takeBack {n ln a ah : Nat} {lo hi c0 c1 : Nat → Nat} {U : Nat} {seen : Nat → Nat} {H : Nat → g_H} {I : Nat → Nat → Int32} {L : Nat → Int64} {Q : Option Value → (Nat → Nat → Int32) → (Nat → Int64) → Prop} (hln : ln ≤ 14) (hn8 : n ≤ 8) (hc : cSt I (n, ln, lo, hi, c0, c1, U, seen)) (ha : a ≤ 8) (ha0 : 0 < a) (hh : ah < 8) (p3 : I 710 0 = nI a) (p4 : I 709 0 = nI ah) (p6 : H 0 = (U, c0, c1, seen)) (hd : cDl I n ln ((ah + 7) % 8) (H 0) (H 1))
    (K : ∀ I', Sm [709, 710, 66, 256, 320, 448] I I' → I' 709 0 = nI ((ah + 7) % 8) → I' 710 0 = nI (a - 1) → cSt I' (g_hs (n, ln, lo, hi, c0, c1, U, seen) (H 1)) → Q none I' L) :
    XS mX3_takeBack 0 [(0, .ref 11)] [] I L Q := by
  obtain ⟨g1, g2, g3, g4, g5⟩ := hc
  have e9 : I 709 0 = nI ah := p4
  have e10 : I 710 0 = nI a := p3
  have hp8 : (ah + 7) % 8 < 8 := Nat.mod_lt _ (by decide)
  have go : ∀ s1 : Int32, s1 = nI ((ah + 7) % 8) → XS mX3_takeBack 19 [(0, .ref 11)] [.int s1, .ref 11] I L Q := by
    rintro s1 rfl
    have hgo := @bX3_takeBack_19 I L Q (nI ((ah + 7) % 8))
    have k1 : (x_up I 709 0 (nI ((ah + 7) % 8))) 710 0 - (1 : Int32) = nI (a - 1) := by rw [x_up_ne (by decide), e10]; exact i_sub (a := a) (b := 1) (by omega)
    rw [k1] at hgo
    generalize hpd : (ah + 7) % 8 = p at hp8 hd K hgo k1
    have t1 : Sm [709, 710] I (x_up (x_up I 709 0 (nI p)) 710 0 (nI (a - 1))) := (Sm.rf.up (by decide)).up (by decide)
    have t2 : (x_up (x_up I 709 0 (nI p)) 710 0 (nI (a - 1))) 709 0 = nI p := by rw [x_up_ne (by decide), x_up_at]
    have t3 : (x_up (x_up I 709 0 (nI p)) 710 0 (nI (a - 1))) 710 0 = nI (a - 1) := x_up_at
    revert hgo
    generalize (x_up (x_up I 709 0 (nI p)) 710 0 (nI (a - 1))) = I1 at t1 t2 t3 ⊢
    intro hgo
    rw [t2, nI_clamp (by omega), t1 768 (by decide), t1 832 (by decide)] at hgo
    have hv : vp_in (nI p) 8 := vp_in_nI hp8 (by decide)
    have hvt : vp_in (I1 709 0) 8 := by rw [t2]; exact hv
    have f1 : ∀ r, r ∉ [709, 710] → I1 r = I r := fun r hr => t1 r hr
    rcases hd with ⟨w1, V, w2, w3⟩ | ⟨w1, l, v, w, hl, w2, w3, w4, w5⟩ | ⟨w1, u, x, hu, w2, w3, w4⟩
    · have w1' : I 768 p = 0 := w1
      refine hgo hv hv (fun q => absurd w1' q) (fun _ => bX3_takeBack_54 hvt (bX3_takeBack_143 ?_))
      rw [t2, nI_clamp (by omega), f1 896 (by decide), show I 896 p = nI V from w2]
      have s2 : Sm [66] I1 (x_up I1 66 0 (nI V)) := Sm.rf.up (by decide)
      have s12 : Sm [709, 710, 66] I (x_up I1 66 0 (nI V)) := (t1.mono (by decide)).tr (s2.mono (by decide))
      refine K _ (s12.mono (by decide)) (by rw [s2 _ (by decide)]; exact t2) (by rw [s2 _ (by decide)]; exact t3) ?_
      rw [w3, p6]
      exact ⟨g1.sm s12 (by decide) (by decide) (by decide) (by decide), fun j hj => by rw [s12 _ (by decide)]; exact g2 j hj, fun j hj => by rw [s12 _ (by decide)]; exact g3 j hj, x_up_at, fun j hj => by rw [s12 _ (by decide)]; exact g5 j hj⟩
    · have w1' : I 768 p = 1 := w1
      have hv2 : vp_in (nI l) 14 := vp_in_nI (by omega) (by decide)
      have w2' : I 832 p = nI l := w2
      refine hgo hv hv (fun _ => bX3_takeBack_73 hvt (fun q => ?_) (fun _ => bX3_takeBack_86 hvt (by rw [w2']; exact hv2) (by rw [x_up_ne (by decide)]; exact hvt) (by rw [w2']; exact hv2) (bX3_takeBack_143 ?_))) (fun q => ?_)
      · rw [t2, nI_clamp (by omega), f1 768 (by decide)] at q
        exact absurd w1' q
      · have k2 : (x_up I1 256 l (nI v)) 709 0 = nI p := by rw [x_up_ne (by decide)]; exact t2
        have k3 : (x_up I1 256 l (nI v)) 960 p = nI w := by rw [x_up_ne (by decide), f1 960 (by decide)]; exact w4
        rw [w2', t2, nI_clamp (by omega), nI_clamp (by omega), f1 896 (by decide), show I 896 p = nI v from w3, k2, nI_clamp (by omega), k3]
        have s2 : Sm [256, 320] I1 (x_up (x_up I1 256 l (nI v)) 320 l (nI w)) := (Sm.rf.up (by decide)).up (by decide)
        have s12 : Sm [709, 710, 256, 320] I (x_up (x_up I1 256 l (nI v)) 320 l (nI w)) := (t1.mono (by decide)).tr (s2.mono (by decide))
        refine K _ (s12.mono (by decide)) (by rw [s2 _ (by decide)]; exact t2) (by rw [s2 _ (by decide)]; exact t3) ?_
        rw [w5, p6]
        refine ⟨g1.sm s12 (by decide) (by decide) (by decide) (by decide), fun j hj => ?_, fun j hj => ?_, by rw [s12 _ (by decide)]; exact g4, fun j hj => by rw [s12 _ (by decide)]; exact g5 j hj⟩
        · show (x_up (x_up I1 256 l (nI v)) 320 l (nI w)) 256 j = nI (g_set c0 l v j)
          rw [x_up_ne (by decide)]
          by_cases hjl : j = l
          · subst hjl; rw [x_up_at, g_set_at]
          · rw [x_up_off hjl, g_set_off hjl, f1 256 (by decide)]; exact g2 j hj
        · show (x_up (x_up I1 256 l (nI v)) 320 l (nI w)) 320 j = nI (g_set c1 l w j)
          by_cases hjl : j = l
          · subst hjl; rw [x_up_at, g_set_at]
          · rw [x_up_off hjl, g_set_off hjl, x_up_ne (by decide), f1 320 (by decide)]; exact g3 j hj
      · rw [w1'] at q
        exact absurd q (by decide)
    · have w1' : I 768 p = 2 := w1
      have hv2 : vp_in (nI u) 8 := vp_in_nI (by omega) (by decide)
      have w2' : I 832 p = nI u := w2
      refine hgo hv hv (fun _ => bX3_takeBack_73 hvt (fun _ => bX3_takeBack_125 hvt (by rw [w2']; exact hv2) (bX3_takeBack_143 ?_)) (fun q => ?_)) (fun q => ?_)
      · rw [w2', t2, nI_clamp (by omega), nI_clamp (by omega), f1 896 (by decide), show I 896 p = nI x from w3]
        have s2 : Sm [448] I1 (x_up I1 448 u (nI x)) := Sm.rf.up (by decide)
        have s12 : Sm [709, 710, 448] I (x_up I1 448 u (nI x)) := (t1.mono (by decide)).tr (s2.mono (by decide))
        refine K _ (s12.mono (by decide)) (by rw [s2 _ (by decide)]; exact t2) (by rw [s2 _ (by decide)]; exact t3) ?_
        rw [w4, p6]
        refine ⟨g1.sm s12 (by decide) (by decide) (by decide) (by decide), fun j hj => by rw [s12 _ (by decide)]; exact g2 j hj, fun j hj => by rw [s12 _ (by decide)]; exact g3 j hj, by rw [s12 _ (by decide)]; exact g4, fun j hj => ?_⟩
        show (x_up I1 448 u (nI x)) 448 j = nI (g_set seen u x j)
        by_cases hju : j = u
        · subst hju; rw [x_up_at, g_set_at]
        · rw [x_up_off hju, g_set_off hju, f1 448 (by decide)]; exact g5 j hj
      · rw [t2, nI_clamp (by omega), f1 768 (by decide), w1'] at q
        exact absurd q (by decide)
      · rw [w1'] at q
        exact absurd q (by decide)
  refine bX3_takeBack_0 (fun q => bX3_takeBack_17 (go 7 ?_)) (fun q => bX3_takeBack_8 (go _ ?_))
  · rw [e9] at q
    have := (i_le ah 0 rfl rfl (by omega) (by decide)).mp q
    rw [show (ah + 7) % 8 = 7 by omega]; rfl
  · rw [e9] at q
    have : ¬ ah ≤ 0 := fun z => q ((i_le ah 0 rfl rfl (by omega) (by decide)).mpr z)
    rw [e9, show (ah + 7) % 8 = ah - 1 by omega]
    exact i_sub (a := ah) (b := 1) (by omega)
theorem k_undoNot {S : q_S} {I : Nat → Nat → Int32} {L : Nat → Int64} {Q : Option Value → (Nat → Nat → Int32) → (Nat → Int64) → Prop} (ha : (sA S).1 = 0) (h : Cl I S) (K : ∀ (I' : Nat → Nat → Int32) (L' : Nat → Int64), Cl I' (S) → Q (some (.int (-4))) I' L') : XS mX9_undo 0 [(0, .ref 0)] [] I L Q := by
  obtain ⟨ah, p1, p2, p3, -⟩ := id h.2.2.2.2.2.2.1
  have e10 : I 710 0 = nI (sA S).1 := p3
  refine bX9_undo_0 (fun q => ?_) (fun _ => bX9_undo_10 (K I L h))
  rw [e10, ha] at q
  exact absurd rfl q
def q_un (S : q_S) : q_S := (g_hs S.1 ((sA S).2 1), S.2.1, S.2.2.1, S.2.2.2.1, ((sA S).1 - 1, fun i => (sA S).2 (i + 1)), S.2.2.2.2.2)
theorem k_undo {S : q_S} {I : Nat → Nat → Int32} {L : Nat → Int64} {Q : Option Value → (Nat → Nat → Int32) → (Nat → Int64) → Prop} (ha : 0 < (sA S).1) (h : Cl I S) (K : ∀ (I' : Nat → Nat → Int32) (L' : Nat → Int64), Cl I' (q_un S) → Q (some (.int (nI ((sA S).1 - 1)))) I' L') : XS mX9_undo 0 [(0, .ref 0)] [] I L Q := by
  obtain ⟨⟨n, ln, lo, hi, c0, c1, U, seen⟩, F, w, pr, ⟨a, H⟩, zz, t, G⟩ := S
  obtain ⟨h1, h2, h3, h4, h5, h6, ⟨ah, p1, p2, p3, p4, p6, p7⟩, h8, h9⟩ := h
  obtain ⟨hN, hc0, hc1, hU14, hS14, hU, hS⟩ := g_okS_eN h1
  have hln := hN.2.2.1
  have hn8 := hN.2.1
  have ha : 0 < a := ha
  have p1 : a ≤ 8 := p1
  have e10 : I 710 0 = nI a := p3
  obtain ⟨q1, q2⟩ := p7 0 ha
  refine bX9_undo_0 (fun q => bX9_undo_13 ?_) (fun q => ?_)
  · refine c_takeBack hln hn8 h2 p1 ha p2 p3 p4 p6 q2 (fun I1 s1 d1 d2 d3 => bX9_undo_20 ?_)
    rw [show I1 710 0 = nI (a - 1) from d2]
    refine K I1 L ⟨q1, d3, h3.ag (s1.ag (by decide)), h4.ag (s1.ag (by decide)), h5.ag (s1.ag (by decide)), h6.ag (s1.ag (by decide)), ⟨(ah + 7) % 8, by show a - 1 ≤ 8; omega, Nat.mod_lt _ (by decide), d2, d1, rfl, fun i hi => ?_⟩, h8.ag (s1.ag (by decide)), (s1 3136 (by decide)).trans h9⟩
    have hi : i < a - 1 := hi
    obtain ⟨y1, y2⟩ := p7 (i + 1) (by show i + 1 < a; omega)
    refine ⟨y1, ?_⟩
    show cDl I1 n ln (((ah + 7) % 8 + 7 - i) % 8) (H (i + 1)) (H (i + 1 + 1))
    rw [show ((ah + 7) % 8 + 7 - i) % 8 = (ah + 7 - (i + 1)) % 8 by omega]
    exact y2.ag (by rw [s1 _ (by decide)]) (by rw [s1 _ (by decide)]) (by rw [s1 _ (by decide)]) (by rw [s1 _ (by decide)])
  · rw [e10] at q
    have := (i_eq a 0 rfl rfl (by omega) (by decide)).mp q
    omega
/-- what is done and undone -/
theorem q_un_do (S : q_S) (σ' : g_St) (e1 : σ'.1 = S.1.1) (e2 : σ'.2.1 = S.1.2.1) (e3 : σ'.2.2.1 = S.1.2.2.1) (e4 : σ'.2.2.2.1 = S.1.2.2.2.1) (h0 : (sA S).2 0 = g_ho S.1) : ∃ a H, q_un (q_do S σ') = uA S (a, H) ∧ a + 1 = min ((sA S).1 + 1) 8 := by
  refine ⟨min ((sA S).1 + 1) 8 - 1, (sA S).2, ?_, by omega⟩
  obtain ⟨n, ln, lo, hi, c0, c1, U, seen⟩ := σ'
  obtain ⟨⟨n', ln', lo', hi', c0', c1', U', seen'⟩, F, w, pr, ⟨a, H⟩, zz, t, G⟩ := S
  dsimp only at e1 e2 e3 e4 h0
  subst e1; subst e2; subst e3; subst e4
  show (g_hs _ (H 0), _) = _
  rw [h0]
  rfl
