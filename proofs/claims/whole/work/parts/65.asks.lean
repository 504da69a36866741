/-! ===== calls that ask the net ===== -/
def eN (n ln : Nat) (lo hi c0 c1 : Nat → Nat) (U : Nat) (seen : Nat → Nat) : Prop := g_net n ln lo hi ∧ g_cs ln c0 ∧ g_cs ln c1 ∧ U < 2 ^ 14 ∧ (∀ u, u < n → seen u < 2 ^ 14) ∧ U < 2 ^ 31 ∧ ∀ u, u < n → seen u < 2 ^ 31
theorem g_okS_eN {n ln : Nat} {lo hi c0 c1 : Nat → Nat} {U : Nat} {seen : Nat → Nat} (h : g_okS (n, ln, lo, hi, c0, c1, U, seen)) : eN n ln lo hi c0 c1 U seen := by
  obtain ⟨h1, h2, h3, h4, h5⟩ := h
  have hl := h1.2.2.1
  have hp : 2 ^ ln ≤ 2 ^ 14 := Nat.pow_le_pow_right (by omega) hl
  have hq : 2 ^ 14 ≤ 2 ^ 31 := Nat.pow_le_pow_right (by omega) (by omega)
  exact ⟨h1, h2, h3, Nat.lt_of_lt_of_le h4 hp, fun u hu => Nat.lt_of_lt_of_le (h5 u hu) hp, Nat.lt_of_lt_of_le h4 (Nat.le_trans hp hq), fun u hu => Nat.lt_of_lt_of_le (h5 u hu) (Nat.le_trans hp hq)⟩
theorem Rel.opn {k : Nat} {I : Nat → Nat → Int32} (h : Rel k I) : ∃ (n ln : Nat) (lo hi c0 c1 : Nat → Nat) (U : Nat) (seen : Nat → Nat), eN n ln lo hi c0 c1 U seen ∧ (cG I n ln lo hi ∧ cC I ln 0 c0 ∧ cC I ln 1 c1 ∧ I 66 0 = nI U ∧ ∀ u, u < n → I 448 u = nI (seen u)) ∧ mG I n ln lo hi ∧ mC I ln 0 c0 ∧ mC I ln 1 c1 ∧ I 3392 28 = nI U ∧ ∀ u, u < n → I 3392 (29 + u) = nI (seen u) := by
  obtain ⟨⟨n, ln, lo, hi, c0, c1, U, seen⟩, h1, ⟨h2, h3⟩, -⟩ := h
  exact ⟨n, ln, lo, hi, c0, c1, U, seen, g_okS_eN h1, h2, h3⟩
theorem mC.sm {S : List Nat} {I I' : Nat → Nat → Int32} {ln kind : Nat} {c : Nat → Nat} (h : mC I ln kind c) (hs : Sm S I I') (h1 : 3392 ∉ S) : mC I' ln kind c := fun l hl => by rw [hs _ h1]; exact h l hl
theorem g_rp_at {r r' : Nat} {I : Nat → Nat → Int32} : ∀ {P : List Nat}, g_rp r I P → g_rp r' I P → ∀ i, i < P.length → I r i = I r' i := by
  intro P
  induction P with
  | nil => intro _ _ i hi; exact absurd hi (Nat.not_lt_zero i)
  | cons u P ih =>
    intro h h' i hi
    rw [List.length_cons] at hi
    by_cases hx : i = P.length
    · subst hx; exact h.1.trans h'.1.symm
    · exact ih h.2 h'.2 i (by omega)
theorem o_way {k : Nat} {x : Int32} {I : Nat → Nat → Int32} {L : Nat → Int64} (h : Rel k I) (hk : k < 2 ^ 30) : Op k mX9_way mX10_way [(1, .int x)] I L := by
  have h' := h
  obtain ⟨σ, h1, -, -, -, -, -, -, ⟨s, P, mm, f1, f2, f3, -, -, -, -, -, -, -, f4, f5⟩⟩ := h
  have f3' : I 2758 0 = nI s := f3
  refine bX9_way_0 (fun q => ?_) (fun q => bX9_way_5 ⟨_, rfl, bX10_way_0 (fun q2 => absurd q2 q) (fun _ => bX10_way_5 ⟨rfl, h'.up⟩)⟩)
  have hx : ¬ x < -1 := i_ge_m1.mp q
  have ref : ∀ (Q : Option Value → (Nat → Nat → Int32) → (Nat → Int64) → Prop), XS mX10_way 8 [(0, .ref 49), (1, .int x)] [] I L Q → XS mX10_way 0 [(0, .ref 49), (1, .int x)] [] I L Q := fun Q K => bX10_way_0 (fun _ => K) (fun q2 => absurd q q2)
  refine bX9_way_8 (fun q2 => ?_) (fun q2 => bX9_way_18 ⟨_, rfl, ref _ ?_⟩)
  · have hs : 0 < s := by
      apply Classical.byContradiction
      intro z
      exact q2 (by rw [f3', show s = 0 by omega]; rfl)
    obtain ⟨g1, g2, g3, g4, g5⟩ := f5 hs
    have g3' : I 3176 0 = nI (P.length - 1) := by rw [show I 3176 0 = nI P.length - 1 from g3]; exact i_sub (a := P.length) (b := 1) (by omega)
    refine bX9_way_20 (fun q3 => bX9_way_35 (c_rtold k_passed g2 f2 ?_)) (fun q3 => bX9_way_25 (bX1_hops_0 (bX9_way_32 (bX9_way_46 ⟨_, rfl, ref _ (bX10_way_8 (fun z => absurd q3 z) (fun _ => bX10_way_13 (bX10_way_38 ⟨?_, h'.up⟩)))⟩))))
    · obtain ⟨a, ha, rfl⟩ := i_ge0 hx q3
      refine bX9_way_46 ⟨_, rfl, ref _ (bX10_way_8 (fun _ => ?_) (fun z => absurd z q3))⟩
      have hT : g_told P.length (I 3072) (nI a) = if a < P.length then I 3072 a else -1 := by
        unfold g_told
        rw [if_neg q3]
        by_cases hal : a < P.length
        · rw [if_pos ((g_is_iff (by omega)).mpr ⟨a, hal, rfl⟩), if_pos hal, nI_clamp ha]
        · rw [if_neg, if_neg hal]
          intro z
          obtain ⟨b, hb, e⟩ := (g_is_iff (by omega)).mp z
          rw [nI_eq (by omega) (by omega)] at e
          omega
      refine bX10_way_20 (fun q4 => bX10_way_37 (bX10_way_38 ⟨?_, h'.up⟩)) (fun q4 => bX10_way_28 (vp_in_nI ?_ (by decide)) (bX10_way_38 ⟨?_, h'.up⟩))
      · rw [g3', nI_ltI (by omega) (by omega)] at q4
        rw [hT, if_neg (by omega)]
      · rw [g3', nI_ltI (by omega) (by omega)] at q4; omega
      · rw [g3', nI_ltI (by omega) (by omega)] at q4
        rw [hT, if_pos (by omega), nI_clamp ha]
        exact congrArg (fun z => some (Value.int z)) (g_rp_at g5 g4 a (by omega))
    · rw [show I 3176 0 = nI P.length - 1 from g3, show I 3009 0 = nI P.length from g2]
  · have hs : s = 0 := by
      rw [f3'] at q2
      exact (i_eq s 0 rfl rfl (by omega) (by decide)).mp q2
    have g3 : I 3176 0 = -1 := f4 hs
    refine bX10_way_8 (fun q3 => bX10_way_20 (fun _ => bX10_way_37 (bX10_way_38 ⟨rfl, h'.up⟩)) (fun q4 => ?_)) (fun _ => bX10_way_13 (bX10_way_38 ⟨?_, h'.up⟩))
    · obtain ⟨a, ha, rfl⟩ := i_ge0 hx q3
      exact absurd (by rw [g3]; exact i_m1lt ha) q4
    · rw [g3]
theorem o_next {k : Nat} {x y z : Int32} {I : Nat → Nat → Int32} {L : Nat → Int64} (h : Rel k I) : Op k mX9_next mX10_next [(1, .int x), (2, .int y), (3, .int z)] I L := by
  have h' := h
  obtain ⟨n, ln, lo, hi, c0, c1, U, seen, ⟨hN, hc0, hc1, -, -, hU, hS⟩, ⟨g1, g2, g3, g4, g5⟩, m1, m2, m3, m4, m5⟩ := h.opn
  have hn8 := hN.2.1
  have bad : (g_is n x && g_is n y) = false → ∀ I L (Q : Option Value → (Nat → Nat → Int32) → (Nat → Int64) → Prop), mG I n ln lo hi → Q (some (.int (-2))) I L → XS mX10_next 0 [(0, .ref 49), (1, .int x), (2, .int y), (3, .int z)] [] I L Q := fun hb I L Q m1 K => by
    refine bX10_next_0 (s_isNode m1 (by omega) ?_)
    cases hx : g_is n x with
    | false => exact bX10_next_5 (fun _ => bX10_next_16 K) (fun q => absurd rfl q)
    | true =>
      refine bX10_next_5 (fun q => absurd q (by decide)) (fun _ => bX10_next_8 (s_isNode m1 (by omega) ?_))
      rw [hx, Bool.true_and] at hb
      rw [hb]
      exact bX10_next_13 (fun q => absurd rfl q) (fun _ => bX10_next_16 K)
  refine bX9_next_0 (c_hasNode g1 ?_)
  cases hx : g_is n x with
  | false => exact bX9_next_8 (fun _ => bX9_next_22 ⟨_, rfl, bad (by rw [hx]; rfl) _ _ _ m1 ⟨rfl, h'.up⟩⟩) (fun q => absurd rfl q)
  | true =>
    refine bX9_next_8 (fun q => absurd q (by decide)) (fun _ => bX9_next_11 (c_hasNode g1 ?_))
    cases hy : g_is n y with
    | false => exact bX9_next_19 (fun q => absurd rfl q) (fun _ => bX9_next_22 ⟨_, rfl, bad (by rw [hx, hy]; rfl) _ _ _ m1 ⟨rfl, h'.up⟩⟩)
    | true =>
      obtain ⟨u, hu, rfl⟩ := (g_is_iff (by omega)).mp hx
      obtain ⟨w, hw, rfl⟩ := (g_is_iff (by omega)).mp hy
      have ref : ∀ I L (Q : Option Value → (Nat → Nat → Int32) → (Nat → Int64) → Prop), mG I n ln lo hi → XS mX10_next 19 [(0, .ref 49), (1, .int (nI u)), (2, .int (nI w)), (3, .int z)] [] I L Q → XS mX10_next 0 [(0, .ref 49), (1, .int (nI u)), (2, .int (nI w)), (3, .int z)] [] I L Q := fun I L Q m1 K => by
        refine bX10_next_0 (s_isNode m1 (by omega) ?_)
        rw [hx]
        refine bX10_next_5 (fun q => absurd q (by decide)) (fun _ => bX10_next_8 (s_isNode m1 (by omega) ?_))
        rw [hy]
        exact bX10_next_13 (fun _ => K) (fun q => absurd q (by decide))
      have good : ∀ kd c, kd < 2 → z = nI kd → cC I ln kd c → mC I ln kd c → g_cs ln c → XS mX9_next 37 [(0, .ref 0), (1, .int (nI u)), (2, .int (nI w)), (3, .int z)] [] I L (fun r I1 L1 => ∃ v, r = some (.int v) ∧ XS mX10_next 0 [(0, .ref 49), (1, .int (nI u)), (2, .int (nI w)), (3, .int z)] [] I1 L1 (fun r2 I2 _ => r2 = some (.int v) ∧ Rel (k + 1) I2)) := by
        rintro kd c hkd rfl hC hM hc
        have e0 : I 448 u = nI (seen u) := g5 u hu
        refine bX9_next_37 (vp_in_nI (by omega) (by decide)) ?_
        rw [nI_clamp (by omega), e0]
        refine c_measure g1 hN hC hc hkd (hS u hu) hw (fun I1 s1 hm => bX9_next_55 (c_nodeAhead (by omega) (bX9_next_63 ⟨_, rfl, ?_⟩)))
        have m1' : mG I1 n ln lo hi := m1.sm s1 (by decide) (by decide) (by decide) (by decide)
        have hM' : mC I1 ln kd c := hM.sm s1 (by decide)
        have e1 : I1 3392 (29 + u) = nI (seen u) := by rw [s1 _ (by decide)]; exact m5 u hu
        have hv : vp_in ((29 : Int32) + nI u) 37 := i_vp (29 + u) (nI_add 29 u) (by omega) (by decide)
        have hcl := i_cl (x := (29 : Int32) + nI u) (29 + u) (nI_add 29 u) (by omega)
        refine ref I1 L _ m1' (bX10_next_19 (s_in01 ?_))
        rw [decide_eq_true (by have : kd = 0 ∨ kd = 1 := by omega
                               rcases this with rfl | rfl
                               · exact Or.inl rfl
                               · exact Or.inr rfl)]
        refine bX10_next_25 (fun _ => bX10_next_31 hv ?_) (fun q => absurd q (by decide))
        rw [hcl, e1]
        refine s_lays m1' hN hM' hc hkd (hS u hu) (fun I2 s2 hF => bX10_next_45 hv ?_)
        rw [hcl, s2 3392 (by decide), e1]
        refine s_nextOf (m1'.sm s2 (by decide) (by decide) (by decide) (by decide)) hN (hM'.sm s2 (by decide)) hc hkd (hS u hu) hF hu hw (bX10_next_61 ⟨?_, (h'.sm s1 (by decide) (Nat.le_refl _)).sm s2 (by decide) (by omega)⟩)
        rw [show I1 1152 u = _ from (hm u hu).2.1]
      refine bX9_next_19 (fun _ => bX9_next_25 (fun q => good 0 c0 (by decide) q g2 m2 hc0) (fun q => bX9_next_29 (fun q2 => good 1 c1 (by decide) q2 g3 m3 hc1) (fun q2 => bX9_next_34 ⟨_, rfl, ref I L _ m1 (bX10_next_19 (s_in01 ?_))⟩))) (fun q => absurd q (by decide))
      rw [decide_eq_false (by rintro (w | w); exact q w; exact q2 w)]
      exact bX10_next_25 (fun q => absurd rfl q) (fun _ => bX10_next_28 ⟨rfl, h'.up⟩)
theorem o_far {k : Nat} {x y z : Int32} {I : Nat → Nat → Int32} {L : Nat → Int64} (h : Rel k I) : Op k mX9_far mX10_far [(1, .int x), (2, .int y), (3, .int z)] I L := by
  have h' := h
  obtain ⟨n, ln, lo, hi, c0, c1, U, seen, ⟨hN, hc0, hc1, -, -, hU, hS⟩, ⟨g1, g2, g3, g4, g5⟩, m1, m2, m3, m4, m5⟩ := h.opn
  have hn8 := hN.2.1
  have bad : (g_is n x && g_is n y) = false → ∀ I L (Q : Option Value → (Nat → Nat → Int32) → (Nat → Int64) → Prop), mG I n ln lo hi → Q (some (.int (-2))) I L → XS mX10_far 0 [(0, .ref 49), (1, .int x), (2, .int y), (3, .int z)] [] I L Q := fun hb I L Q m1 K => by
    refine bX10_far_0 (s_isNode m1 (by omega) ?_)
    cases hx : g_is n x with
    | false => exact bX10_far_5 (fun _ => bX10_far_16 K) (fun q => absurd rfl q)
    | true =>
      refine bX10_far_5 (fun q => absurd q (by decide)) (fun _ => bX10_far_8 (s_isNode m1 (by omega) ?_))
      rw [hx, Bool.true_and] at hb
      rw [hb]
      exact bX10_far_13 (fun q => absurd rfl q) (fun _ => bX10_far_16 K)
  refine bX9_far_0 (c_hasNode g1 ?_)
  cases hx : g_is n x with
  | false => exact bX9_far_8 (fun _ => bX9_far_22 ⟨_, rfl, bad (by rw [hx]; rfl) _ _ _ m1 ⟨rfl, h'.up⟩⟩) (fun q => absurd rfl q)
  | true =>
    refine bX9_far_8 (fun q => absurd q (by decide)) (fun _ => bX9_far_11 (c_hasNode g1 ?_))
    cases hy : g_is n y with
    | false => exact bX9_far_19 (fun q => absurd rfl q) (fun _ => bX9_far_22 ⟨_, rfl, bad (by rw [hx, hy]; rfl) _ _ _ m1 ⟨rfl, h'.up⟩⟩)
    | true =>
      obtain ⟨u, hu, rfl⟩ := (g_is_iff (by omega)).mp hx
      obtain ⟨w, hw, rfl⟩ := (g_is_iff (by omega)).mp hy
      have ref : ∀ I L (Q : Option Value → (Nat → Nat → Int32) → (Nat → Int64) → Prop), mG I n ln lo hi → XS mX10_far 19 [(0, .ref 49), (1, .int (nI u)), (2, .int (nI w)), (3, .int z)] [] I L Q → XS mX10_far 0 [(0, .ref 49), (1, .int (nI u)), (2, .int (nI w)), (3, .int z)] [] I L Q := fun I L Q m1 K => by
        refine bX10_far_0 (s_isNode m1 (by omega) ?_)
        rw [hx]
        refine bX10_far_5 (fun q => absurd q (by decide)) (fun _ => bX10_far_8 (s_isNode m1 (by omega) ?_))
        rw [hy]
        exact bX10_far_13 (fun _ => K) (fun q => absurd q (by decide))
      have good : ∀ kd c, kd < 2 → z = nI kd → cC I ln kd c → mC I ln kd c → g_cs ln c → XS mX9_far 37 [(0, .ref 0), (1, .int (nI u)), (2, .int (nI w)), (3, .int z)] [] I L (fun r I1 L1 => ∃ v, r = some (.int v) ∧ XS mX10_far 0 [(0, .ref 49), (1, .int (nI u)), (2, .int (nI w)), (3, .int z)] [] I1 L1 (fun r2 I2 _ => r2 = some (.int v) ∧ Rel (k + 1) I2)) := by
        rintro kd c hkd rfl hC hM hc
        have e0 : I 448 u = nI (seen u) := g5 u hu
        refine bX9_far_37 (vp_in_nI (by omega) (by decide)) ?_
        rw [nI_clamp (by omega), e0]
        have hok := g_e_ok hN hc (seen u)
        have hdc := g_dst_cases hok (w := w) hu
        have hdl : g_dst (g_e ln lo hi c (seen u)) u w ≤ 1000 := by rcases hdc with q | q <;> omega
        refine c_measure g1 hN hC hc hkd (hS u hu) hw (fun I1 s1 hm => bX9_far_55 (c_sumFrom (by omega) (hm u hu).1 (by omega) (bX9_far_63 ⟨_, rfl, ?_⟩)))
        have m1' : mG I1 n ln lo hi := m1.sm s1 (by decide) (by decide) (by decide) (by decide)
        have hM' : mC I1 ln kd c := hM.sm s1 (by decide)
        have e1 : I1 3392 (29 + u) = nI (seen u) := by rw [s1 _ (by decide)]; exact m5 u hu
        have hv : vp_in ((29 : Int32) + nI u) 37 := i_vp (29 + u) (nI_add 29 u) (by omega) (by decide)
        have hcl := i_cl (x := (29 : Int32) + nI u) (29 + u) (nI_add 29 u) (by omega)
        refine ref I1 L _ m1' (bX10_far_19 (s_in01 ?_))
        rw [decide_eq_true (by have : kd = 0 ∨ kd = 1 := by omega
                               rcases this with rfl | rfl
                               · exact Or.inl rfl
                               · exact Or.inr rfl)]
        refine bX10_far_25 (fun _ => bX10_far_31 hv ?_) (fun q => absurd q (by decide))
        rw [hcl, e1]
        refine s_lays m1' hN hM' hc hkd (hS u hu) (fun I2 s2 hF => ?_)
        have hix : (8 : Int32) * nI u + nI w = nI (8 * u + w) := by rw [i_8mul, nI_add]
        have hv2 : vp_in ((8 : Int32) * nI u + nI w) 64 := i_vp (8 * u + w) hix (by omega) (by decide)
        have e2 : I2 3712 (8 * u + w) = nI (g_far (g_e ln lo hi c (seen u)) u w) := hF u w hu hw
        have hR : Rel (k + 1) I2 := (h'.sm s1 (by decide) (Nat.le_refl _)).sm s2 (by decide) (by omega)
        refine bX10_far_45 hv2 (fun q => bX10_far_76 (bX10_far_77 ⟨?_, hR⟩)) (fun q => bX10_far_62 hv2 (bX10_far_77 ⟨?_, hR⟩))
        · rw [hix, nI_clamp (by omega), e2] at q
          have hfar : g_far (g_e ln lo hi c (seen u)) u w < 2 ^ 31 := by unfold g_far; split <;> omega
          have q' := (i_le 9999 _ rfl rfl (by decide) hfar).mp q
          unfold g_far at q'
          split at q'
          · rw [if_neg (by omega)]
          · omega
        · rw [hix, nI_clamp (by omega), e2] at q ⊢
          have hfar : g_far (g_e ln lo hi c (seen u)) u w < 2 ^ 31 := by unfold g_far; split <;> omega
          have q' : ¬ 9999 ≤ g_far (g_e ln lo hi c (seen u)) u w := fun w => q ((i_le 9999 _ rfl rfl (by decide) hfar).mpr w)
          unfold g_far at q' ⊢
          split at q'
          · omega
          · rename_i hne
            rw [if_neg hne, if_pos (by omega)]
      refine bX9_far_19 (fun _ => bX9_far_25 (fun q => good 0 c0 (by decide) q g2 m2 hc0) (fun q => bX9_far_29 (fun q2 => good 1 c1 (by decide) q2 g3 m3 hc1) (fun q2 => bX9_far_34 ⟨_, rfl, ref I L _ m1 (bX10_far_19 (s_in01 ?_))⟩))) (fun q => absurd q (by decide))
      rw [decide_eq_false (by rintro (w | w); exact q w; exact q2 w)]
      exact bX10_far_25 (fun q => absurd rfl q) (fun _ => bX10_far_28 ⟨rfl, h'.up⟩)
theorem g_hnx {n ln U : Nat} {lo hi c seen : Nat → Nat} (hN : g_net n ln lo hi) (hc : g_cs ln c) : ∀ M w u v, g_FL (g_nxt (g_e ln lo hi c U) n) (g_nS n ln lo hi c seen) M w u = some v → v < n := fun M w u v h => by
  unfold g_FL at h
  split at h
  · exact (g_nxt_some (g_e_ok hN hc U) h).1
  · exact (g_nxt_some (g_e_ok hN hc (seen u)) h).1
theorem o_rings {k : Nat} {x : Int32} {I : Nat → Nat → Int32} {L : Nat → Int64} (h : Rel k I) : Op k mX9_rings mX10_rings [(1, .int x)] I L := by
  have h' := h
  obtain ⟨n, ln, lo, hi, c0, c1, U, seen, ⟨hN, hc0, hc1, -, -, hU, hS⟩, ⟨g1, g2, g3, g4, g5⟩, m1, m2, m3, m4, m5⟩ := h.opn
  have hn8 := hN.2.1
  refine bX9_rings_0 (c_hasNode g1 ?_)
  cases hx : g_is n x with
  | false =>
    refine bX9_rings_8 (fun q => absurd rfl q) (fun _ => bX9_rings_11 ⟨_, rfl, bX10_rings_0 (s_isNode m1 (by omega) ?_)⟩)
    rw [hx]
    exact bX10_rings_5 (fun q => absurd rfl q) (fun _ => bX10_rings_8 ⟨rfl, h'.up⟩)
  | true =>
    obtain ⟨w, hw, rfl⟩ := (g_is_iff (by omega)).mp hx
    refine bX9_rings_8 (fun _ => bX9_rings_14 (c_lookTowards g1 hN g2 hc0 g4 hU (fun u hu => ⟨g5 u hu, hS u hu⟩) hw (fun I1 s1 hR hF => bX9_rings_22 (c_ringsOf (M := 0) (by rw [s1 _ (by decide)]; exact g1.1) hn8 hw (by decide) hR (g_hnx hN hc0 0 w) (bX9_rings_31 ⟨_, rfl, ?_⟩))))) (fun q => absurd q (by decide))
    have m1' : mG I1 n ln lo hi := m1.sm s1 (by decide) (by decide) (by decide) (by decide)
    refine bX10_rings_0 (s_isNode m1' (by omega) ?_)
    rw [hx]
    refine bX10_rings_5 (fun _ => bX10_rings_11 (s_laysGoes m1' hN (m2.sm s1 (by decide)) hc0 (by rw [s1 _ (by decide)]; exact m4) hU (fun u hu => ⟨by rw [s1 _ (by decide)]; exact m5 u hu, hS u hu⟩) (fun I2 s2 hR2 => bX10_rings_15 (s_ringsOf (M := 0) (by rw [s2 _ (by decide)]; exact m1'.1) hn8 hw (by decide) hR2 (g_hnx hN hc0 0 w) (bX10_rings_21 ⟨rfl, (h'.sm s1 (by decide) (Nat.le_refl _)).sm s2 (by decide) (by omega)⟩))))) (fun q => absurd q (by decide))
theorem o_safe {k : Nat} {x : Int32} {I : Nat → Nat → Int32} {L : Nat → Int64} (h : Rel k I) : Op k mX9_safe mX10_safe [(1, .int x)] I L := by
  have h' := h
  obtain ⟨n, ln, lo, hi, c0, c1, U, seen, ⟨hN, hc0, hc1, -, -, hU, hS⟩, ⟨g1, g2, g3, g4, g5⟩, m1, m2, m3, m4, m5⟩ := h.opn
  have hn8 := hN.2.1
  refine bX9_safe_0 (c_hasNode g1 ?_)
  cases hx : g_is n x with
  | false =>
    refine bX9_safe_8 (fun q => absurd rfl q) (fun _ => bX9_safe_11 ⟨_, rfl, bX10_safe_0 (s_isNode m1 (by omega) ?_)⟩)
    rw [hx]
    exact bX10_safe_5 (fun q => absurd rfl q) (fun _ => bX10_safe_8 ⟨rfl, h'.up⟩)
  | true =>
    obtain ⟨w, hw, rfl⟩ := (g_is_iff (by omega)).mp hx
    have hp : 2 ^ w ≤ 2 ^ 7 := Nat.pow_le_pow_right (by omega) (by omega)
    have hM : 2 ^ w < 2 ^ 31 := by omega
    refine bX9_safe_8 (fun _ => bX9_safe_14 (c_lookAround g1 hN g2 hc0 g4 hU (fun u hu => ⟨g5 u hu, hS u hu⟩) (fun I1 s1 hR => bX9_safe_21 ?_))) (fun q => absurd q (by decide))
    rw [i_1shl (by omega)]
    refine c_hasRings (by rw [s1 _ (by decide)]; exact g1.1) hn8 hM hR (g_hnx hN hc0 (2 ^ w)) ?_
    have m1' : mG I1 n ln lo hi := m1.sm s1 (by decide) (by decide) (by decide) (by decide)
    have ref : ∀ v : Int32, v = i_b (g_safe (g_nxt (g_e ln lo hi c0 U) n) (g_nS n ln lo hi c0 seen) n (2 ^ w)) → XS mX10_safe 0 [(0, .ref 49), (1, .int (nI w))] [] I1 L (fun r2 I2 _ => r2 = some (.int v) ∧ Rel (k + 1) I2) := by
      intro v hv
      refine bX10_safe_0 (s_isNode m1' (by omega) ?_)
      rw [hx]
      refine bX10_safe_5 (fun _ => bX10_safe_11 (s_laysGoes m1' hN (m2.sm s1 (by decide)) hc0 (by rw [s1 _ (by decide)]; exact m4) hU (fun u hu => ⟨by rw [s1 _ (by decide)]; exact m5 u hu, hS u hu⟩) (fun I2 s2 hR2 => bX10_safe_15 ?_))) (fun q => absurd q (by decide))
      rw [i_1shl (by omega)]
      refine s_isSafe (by rw [s2 _ (by decide)]; exact m1'.1) hn8 hM hR2 (g_hnx hN hc0 (2 ^ w)) ?_
      have hR : Rel (k + 1) I2 := (h'.sm s1 (by decide) (Nat.le_refl _)).sm s2 (by decide) (by omega)
      rw [hv]
      cases g_safe (g_nxt (g_e ln lo hi c0 U) n) (g_nS n ln lo hi c0 seen) n (2 ^ w) with
      | true => exact bX10_safe_22 (fun q => absurd q (by decide)) (fun _ => bX10_safe_25 (bX10_safe_30 ⟨rfl, hR⟩))
      | false => exact bX10_safe_22 (fun _ => bX10_safe_29 (bX10_safe_30 ⟨rfl, hR⟩)) (fun q => absurd rfl q)
    cases hsf : g_safe (g_nxt (g_e ln lo hi c0 U) n) (g_nS n ln lo hi c0 seen) n (2 ^ w) with
    | true => exact bX9_safe_31 (fun _ => bX9_safe_38 (bX9_safe_39 ⟨_, rfl, ref _ (by rw [hsf]; rfl)⟩)) (fun q => absurd rfl q)
    | false => exact bX9_safe_31 (fun q => absurd q (by decide)) (fun _ => bX9_safe_34 (bX9_safe_39 ⟨_, rfl, ref _ (by rw [hsf]; rfl)⟩))
theorem o_order {k : Nat} {x : Int32} {I : Nat → Nat → Int32} {L : Nat → Int64} (h : Rel k I) : Op k mX9_order mX10_order [(1, .int x)] I L := by
  have h' := h
  obtain ⟨n, ln, lo, hi, c0, c1, U, seen, ⟨hN, hc0, hc1, -, -, hU, hS⟩, ⟨g1, g2, g3, g4, g5⟩, m1, m2, m3, m4, m5⟩ := h.opn
  refine c_order g1 hN g2 hc0 g4 hU (fun u hu => ⟨g5 u hu, hS u hu⟩) (fun I1 r s1 hr => ⟨_, rfl, ?_⟩)
  have m1' : mG I1 n ln lo hi := m1.sm s1 (by decide) (by decide) (by decide) (by decide)
  refine s_order m1' hN (m2.sm s1 (by decide)) hc0 (by rw [s1 _ (by decide)]; exact m4) hU (fun u hu => ⟨by rw [s1 _ (by decide)]; exact m5 u hu, hS u hu⟩) (fun I2 r2 s2 hr2 => ⟨?_, (h'.sm s1 (by decide) (Nat.le_refl _)).sm s2 (by decide) (by omega)⟩)
  rw [g_OA_uni hr2 hr]
