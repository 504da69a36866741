/-! ===== the reference reads a clause ===== -/
theorem g_okS_E {σ : g_St} (hok : g_okS σ) : 2 ≤ σ.1 ∧ σ.1 ≤ 8 ∧ σ.2.1 ≤ 14 ∧ g_net σ.1 σ.2.1 σ.2.2.1 σ.2.2.2.1 := by
  obtain ⟨n, ln, lo, hi, c0, c1, U, seen⟩ := σ
  exact ⟨hok.1.1, hok.1.2.1, hok.1.2.2.1, hok.1⟩
theorem s_readsLink {σ : g_St} {T : Nat → Nat} {len i : Nat} {D : Bool} {I : Nat → Nat → Int32} {L : Nat → Int64} {Q : Option Value → (Nat → Nat → Int32) → (Nat → Int64) → Prop} (hok : g_okS σ) (hR : mRd I σ) (hS : D = true → mSt I σ) (hT : mT I T len) (hi : i ≤ len) (he : I 3160 0 = nI i) (hf : I 3162 0 = 0) (hD : I 3163 0 = i_b D)
    (K0 : ∀ I' p, Sm S_rd I I' → g_cll T len σ.1 (g_El σ.2.1 σ.2.2.1 σ.2.2.2.1) i = .inl p → I' 3162 0 = 1 → I' 3160 0 = nI p → Q none I' L)
    (K1 : ∀ I' cl e, Sm S_do I I' → (D = false → Sm S_rd I I') → g_cll T len σ.1 (g_El σ.2.1 σ.2.2.1 σ.2.2.2.1) i = .inr (cl, e) → I' 3162 0 = 0 → I' 3160 0 = nI e → mRd I' (g_ap σ cl) → (D = true → mSt I' (g_ap σ cl) ∧ mGone I I' (g_isN cl)) → Q none I' L) :
    XS mX10_readsLink 0 [(0, .ref 49)] [] I L Q := by
  obtain ⟨hN2, hN8, hE14, hN⟩ := g_okS_E hok
  have hl := hT.2.1
  have z0 := g_PZ (T := T) hi
  have r0 : I 3164 0 = nI σ.1 ∧ I 3165 0 = nI σ.2.1 ∧ ∀ l, l < σ.2.1 → I 4160 l = nI (σ.2.2.1 l) ∧ I 4224 l = nI (σ.2.2.2.1 l) := by
    obtain ⟨n, ln, lo, hi, c0, c1, U, seen⟩ := σ
    exact hR
  have hElen := g_El_len σ.2.1 σ.2.2.1 σ.2.2.2.1
  generalize hEq : g_El σ.2.1 σ.2.2.1 σ.2.2.2.1 = E at K0 K1 hElen
  generalize hNq : σ.1 = N at K0 K1 hN2 hN8 r0 hN
  have hN1 : I 3164 0 - (1 : Int32) = nI (N - 1) := by rw [show I 3164 0 = nI N from r0.1]; exact i_sub (a := N) (b := 1) (by omega)
  -- under a fault
  have flt : ∀ I1 (v1 v2 : Int32) p, Sm S_rd I I1 → I1 3162 0 = 1 → I1 3160 0 = nI p → g_cll T len N E i = .inl p → XS mX10_readsLink 103 [(0, .ref 49), (1, .int v1), (2, .int v2)] [] I1 L Q := by
    intro I1 v1 v2 p s1 h1 h2 hp
    obtain ⟨z, hz⟩ := nI_any (I1 3161 0)
    refine bX10_readsLink_103 (s_figure1 h1 h2 hz (fun I2 s2 a b c => bX10_readsLink_110 (s_figure1 a b c (fun I3 s3 a' b' c' => bX10_readsLink_119 (fun h => absurd (a'.symm.trans h) (by decide)) (fun _ => bX10_readsLink_128 (K0 I3 p ((s1.tr (s2.mono (by decide))).tr (s3.mono (by decide))) hp a' b'))))))
  have flt99 : ∀ I1 (v1 v2 : Int32) (ft : Bool) p, Sm S_rd I I1 → I1 3162 0 = i_b ft → I1 3160 0 = nI p → g_cll T len N E i = .inl p → XS mX10_readsLink 99 [(0, .ref 49), (1, .int v1), (2, .int v2)] [.ref 49] I1 L Q := by
    intro I1 v1 v2 ft p s1 h1 h2 hp
    obtain ⟨z, hz⟩ := nI_any (I1 3161 0)
    refine bX10_readsLink_99 (bX10_readsLink_100 (s_takes (ok := false) h1 h2 hz (fun I2 s2 b1 b2 => flt I2 v1 v2 p (s1.tr (s2.mono (by decide))) ?_ ?_ hp)))
    · rw [b1]; cases ft <;> rfl
    · rw [b2, if_pos (by cases ft <;> rfl)]
  have flt69 : ∀ I1 (v1 v2 : Int32) (ft : Bool) p, Sm S_rd I I1 → I1 3162 0 = i_b ft → I1 3160 0 = nI p → g_cll T len N E i = .inl p → XS mX10_readsLink 69 [(0, .ref 49), (1, .int v1), (2, .int v2)] [] I1 L Q :=
    fun I1 v1 v2 ft p s1 h1 h2 hp => bX10_readsLink_69 (bX10_readsLink_70 (fun _ => flt99 I1 v1 v2 ft p s1 h1 h2 hp) (fun h => absurd rfl h))
  refine bX10_readsLink_0 ?_
  rw [hN1]
  refine s_figure0 (a := 0) (b := N - 1) hT hi he hf (by decide) (by omega) (fun I1 r s1 hn a1 a2 => ?_) (fun I1 u s1 hn a1 a2 => ?_)
  · have hp : g_cll T len N E i = .inl (g_P T len i) := by unfold g_cll; rw [hn]
    exact bX10_readsLink_11 (fun h => absurd (a1.symm.trans h) (by decide)) (fun _ => bX10_readsLink_19 (bX10_readsLink_30 (fun _ => flt69 I1 r (-1) true _ (s1.mono (by decide)) a1 a2 hp) (fun h => absurd (a1.symm.trans h) (by decide))))
  · have hub := g_nu_lt hn
    have g1 : g_cll T len N E i = g_cl2 T len N E u (g_Z T len i) := by unfold g_cll; rw [hn]
    have z1 := g_PZ (T := T) (i := g_Z T len i) z0.2.2.2
    have hT1 : mT I1 T len := hT.sm s1 (by decide) (by decide)
    have a1' : I1 3162 0 = 0 := a1
    refine bX10_readsLink_11 (fun _ => bX10_readsLink_23 (s_looks hT1 z0.2.2.2 a2 (fun I2 s2 hk2 => bX10_readsLink_27 ?_))) (fun h => absurd a1' h)
    generalize hj : g_Z T len i = j at z1 g1 hk2 ⊢
    have s12 : Sm S_rd I I2 := (s1.mono (by decide)).tr (s2.mono (by decide))
    have f2 : I2 3162 0 = 0 := by rw [s2 _ (by decide)]; exact a1
    have hlong : I2 3161 0 = nI (g_Z T len j - g_P T len j) := hk2.2
    have bad : ∀ v2 : Int32, g_cl2 T len N E u j = .inl (g_P T len j) → XS mX10_readsLink 69 [(0, .ref 49), (1, .int (nI u)), (2, .int v2)] [] I2 L Q := fun v2 hb => flt69 I2 _ v2 false _ s12 f2 hk2.1 (g1.trans hb)
    refine bX10_readsLink_30 (fun h => absurd f2 h) (fun _ => bX10_readsLink_38 (fun h => bad _ ?_) (fun h => ?_))
    · rw [hlong] at h
      have hnu : g_nu T len j 0 (N - 1) = none := by
        unfold g_nu g_num
        rw [if_neg]
        intro q
        exact h (by rw [show g_Z T len j - g_P T len j = 1 by omega]; rfl)
      unfold g_cl2; rw [hnu]
    · rw [hlong] at h
      have h1 := (i_eq _ 1 rfl rfl (by omega) (by decide)).mp h
      have hx := hT.2.2 (g_P T len j) (by omega)
      have hc := i_48 (T (g_P T len j)) hx.2
      have hN2' : I2 3164 0 - (1 : Int32) = nI (N - 1) := by rw [s2 3164 (by decide), s1 3164 (by decide)]; exact hN1
      refine bX10_readsLink_46 ?_
      rw [if_pos (show g_P T len j < len by omega), hN2']
      refine s_in (a := 0) (b := 0) (c := 0) (decide (48 + 0 ≤ T (g_P T len j) ∧ T (g_P T len j) ≤ 48 + (N - 1))) (by rw [decide_eq_true_eq, ← (hc 0 (by decide)).1, ← (hc (N - 1) (by omega)).2]; exact Iff.rfl) ?_
      cases hd : decide (48 + 0 ≤ T (g_P T len j) ∧ T (g_P T len j) ≤ 48 + (N - 1)) with
      | false =>
        rw [decide_eq_false_iff_not] at hd
        refine bX10_readsLink_57 (fun _ => bad _ ?_) (fun h => absurd rfl h)
        have hnu : g_nu T len j 0 (N - 1) = none := by
          unfold g_nu g_num
          rw [if_neg (fun q => hd q.2)]
        unfold g_cl2; rw [hnu]
      | true =>
        rw [decide_eq_true_eq] at hd
        have hnu : g_nu T len j 0 (N - 1) = some (T (g_P T len j) - 48) := by
          unfold g_nu g_num
          rw [if_pos ⟨by omega, hd⟩]
        rw [show nI (T (g_P T len j)) - (48 : Int32) = nI (T (g_P T len j) - 48) from i_sub (a := T (g_P T len j)) (b := 48) (by omega)]
        have hvb : T (g_P T len j) - 48 ≤ N - 1 := by omega
        generalize T (g_P T len j) - 48 = v at hnu hvb
        have hfull : g_cl2 T len N E u j = if v = u ∨ (g_pr u v ∉ E ∧ 14 ≤ E.length) then .inl (g_P T len j) else g_cl3 T len u v (g_Z T len j) := by
          unfold g_cl2; rw [hnu]
        refine bX10_readsLink_57 (fun h => absurd h (by decide)) (fun _ => bX10_readsLink_60 (fun h => bad _ ?_) (fun h => bX10_readsLink_65 (bX10_readsLink_70 (fun h => absurd h (by decide)) (fun _ => bX10_readsLink_76 ?_))))
        · rw [hfull, if_pos (Or.inl ((nI_eq (by omega) (by omega)).mp h))]
        · have hvu : v ≠ u := fun q => h (by rw [q])
          have rd2 : I2 3165 0 = nI σ.2.1 ∧ ∀ l, l < σ.2.1 → I2 4160 l = nI (σ.2.2.1 l) ∧ I2 4224 l = nI (σ.2.2.2.1 l) := by
            refine ⟨by rw [s2 _ (by decide), s1 _ (by decide)]; exact r0.2.1, fun l hl => ?_⟩
            rw [s2 _ (by decide), s1 _ (by decide), s2 _ (by decide), s1 _ (by decide)]
            exact r0.2.2 l hl
          have hEl : g_lk σ.2.1 σ.2.2.1 σ.2.2.2.1 u v = none ↔ g_pr u v ∉ E := by rw [← hEq]; exact g_lk_El hN (fun q => hvu q.symm)
          refine s_readLinkOf rd2.1 rd2.2 hN (by omega) (by omega) ?_
          have r65 : I2 3165 0 = nI σ.2.1 := rd2.1
          have fault : g_lk σ.2.1 σ.2.2.1 σ.2.2.2.1 u v = none → 14 ≤ σ.2.1 → XS mX10_readsLink 99 [(0, .ref 49), (1, .int (nI u)), (2, .int (nI v))] [.ref 49] I2 L Q := fun q1 q2 => by
            refine flt99 I2 _ _ false _ s12 f2 hk2.1 (g1.trans ?_)
            rw [hfull, if_pos (Or.inr ⟨hEl.mp q1, by omega⟩)]
          have good : ¬ (g_lk σ.2.1 σ.2.2.1 σ.2.2.2.1 u v = none ∧ 14 ≤ σ.2.1) → XS mX10_readsLink 95 [(0, .ref 49), (1, .int (nI u)), (2, .int (nI v))] [.ref 49] I2 L Q := by
            intro hgood
            have g2 : g_cll T len N E i = g_cl3 T len u v (g_Z T len j) := by
              rw [g1, hfull, if_neg]
              rintro (q | q)
              · exact hvu q
              · exact hgood ⟨hEl.mpr q.1, by omega⟩
            have z2 := g_PZ (T := T) (i := g_Z T len j) z1.2.2.2
            refine bX10_readsLink_95 (bX10_readsLink_100 (s_takes (ft := false) (ok := true) f2 hk2.1 hk2.2 (fun I3 s3 b1 b2 => bX10_readsLink_103 ?_)))
            rw [if_neg (by simp), show g_P T len j + (g_Z T len j - g_P T len j) = g_Z T len j by omega] at b2
            have s13 : Sm S_rd I I3 := s12.tr (s3.mono (by decide))
            have hT3 : mT I3 T len := hT.sm s13 (by decide) (by decide)
            refine s_figure0 (a := 1) (b := 9) hT3 z1.2.2.2 b2 b1 (by decide) (by decide) (fun I4 r4 s4 hn4 c1 c2 => ?_) (fun I4 c s4 hn4 c1 c2 => ?_)
            · have hp : g_cll T len N E i = .inl (g_P T len (g_Z T len j)) := by rw [g2]; unfold g_cl3; rw [hn4]
              obtain ⟨z, hz⟩ := nI_any (I4 3161 0)
              exact bX10_readsLink_110 (s_figure1 c1 c2 hz (fun I5 s5 d1 d2 d3 => bX10_readsLink_119 (fun h => absurd (d1.symm.trans h) (by decide)) (fun _ => bX10_readsLink_128 (K0 I5 _ ((s13.tr (s4.mono (by decide))).tr (s5.mono (by decide))) hp d1 d2))))
            · have g3 : g_cll T len N E i = g_cl4 T len u v c (g_Z T len (g_Z T len j)) := by rw [g2]; unfold g_cl3; rw [hn4]
              have s14 : Sm S_rd I I4 := s13.tr (s4.mono (by decide))
              have hT4 : mT I4 T len := hT.sm s14 (by decide) (by decide)
              have z3 := g_PZ (T := T) (i := g_Z T len (g_Z T len j)) z2.2.2.2
              refine bX10_readsLink_110 (s_figure0 (a := 1) (b := 9) hT4 z2.2.2.2 c2 c1 (by decide) (by decide) (fun I5 r5 s5 hn5 d1 d2 => ?_) (fun I5 d s5 hn5 d1 d2 => ?_))
              · have hp : g_cll T len N E i = .inl (g_P T len (g_Z T len (g_Z T len j))) := by rw [g3]; unfold g_cl4; rw [hn5]
                exact bX10_readsLink_119 (fun h => absurd (d1.symm.trans h) (by decide)) (fun _ => bX10_readsLink_128 (K0 I5 _ (s14.tr (s5.mono (by decide))) hp d1 d2))
              · have g4 : g_cll T len N E i = .inr (.inr (u, v, c, d), g_Z T len (g_Z T len (g_Z T len j))) := by rw [g3]; unfold g_cl4; rw [hn5]
                have s34 : Sm [3160, 3161, 3162] I I5 := (((s1.tr (s2.mono (by decide))).tr (s3.mono (by decide))).tr s4).tr s5
                have rd5 : mRd I5 σ := by
                  obtain ⟨n, ln, lo, hi, c0, c1, U, seen⟩ := σ
                  obtain ⟨y1, y2, y3⟩ := hR
                  exact ⟨by rw [s34 _ (by decide)]; exact y1, by rw [s34 _ (by decide)]; exact y2, fun l hl => by rw [s34 _ (by decide), s34 _ (by decide)]; exact y3 l hl⟩
                refine bX10_readsLink_119 (fun _ => ?_) (fun h => absurd d1 h)
                refine s_linkPut (I0 := I) (c := c) (d := d) hok rd5 (fun q => (hS q).sm s34 (by decide) (by decide) (by decide) (by decide) (by decide)) (s34.mono (by decide)) d1 d2 (by rw [s34 _ (by decide)]; exact hD) (by rw [hNq]; omega) (by rw [hNq]; omega) (fun q => hvu q.symm) (fun q => ?_) (fun I' k1 k2 k3 k4 k5 k6 => K1 I' _ _ k1 k2 g4 k3 k4 k5 k6)
                apply Classical.byContradiction
                intro q2
                exact hgood ⟨q, by omega⟩
          cases hlk : g_lk σ.2.1 σ.2.2.1 σ.2.2.2.1 u v with
          | some l =>
            have := (g_lk_lt hN hlk).1
            exact bX10_readsLink_82 (fun _ => good (fun q => by rw [hlk] at q; cases q.1)) (fun h => absurd h (i_m1ne (by omega)))
          | none =>
            refine bX10_readsLink_82 (fun h => absurd rfl h) (fun _ => bX10_readsLink_86 (fun h => fault hlk ?_) (fun h => good (fun q => h ?_)))
            · rw [r65] at h
              exact (i_le 14 _ rfl rfl (by decide) (by omega)).mp h
            · rw [r65]
              exact (i_le 14 _ rfl rfl (by decide) (by omega)).mpr q.2
theorem s_clause {σ : g_St} {T : Nat → Nat} {len i : Nat} {D : Bool} {I : Nat → Nat → Int32} {L : Nat → Int64} {Q : Option Value → (Nat → Nat → Int32) → (Nat → Int64) → Prop} (hok : g_okS σ) (hR : mRd I σ) (hS : D = true → mSt I σ) (hT : mT I T len) (hi : i ≤ len) (he : I 3160 0 = nI i) (hf : I 3162 0 = 0) (hD : I 3163 0 = i_b D)
    (K0 : ∀ I' p, Sm S_rd I I' → g_cl T len σ.1 (g_El σ.2.1 σ.2.2.1 σ.2.2.2.1) i = .inl p → I' 3162 0 = 1 → I' 3160 0 = nI p → Q none I' L)
    (K1 : ∀ I' cl e, Sm S_do I I' → (D = false → Sm S_rd I I') → g_cl T len σ.1 (g_El σ.2.1 σ.2.2.1 σ.2.2.2.1) i = .inr (cl, e) → I' 3162 0 = 0 → I' 3160 0 = nI e → mRd I' (g_ap σ cl) → (D = true → mSt I' (g_ap σ cl) ∧ mGone I I' (g_isN cl)) → Q none I' L) :
    XS mX10_clause 0 [(0, .ref 49)] [] I L Q := by
  have z := g_PZ (T := T) hi
  refine bX10_clause_0 (s_looks hT hi he (fun I1 s1 hk => bX10_clause_4 (s_isName (i := 0) (by decide) (hT.sm s1 (by decide) (by decide)) z.2.2.1 z.2.2.2 hk (bX10_clause_19 (s_isName (i := 1) (by decide) (hT.sm s1 (by decide) (by decide)) z.2.2.1 z.2.2.2 hk (bX10_clause_33 (fun h => ?_) (fun h => bX10_clause_39 (fun h2 => ?_) (fun h2 => ?_))))))))
  all_goals
    have f1 : I1 3162 0 = i_b false := by rw [s1 _ (by decide)]; exact hf
  · -- nodes
    rw [i_b0] at h
    have h' : g_isw T (g_P T len i) (g_Z T len i) 0 = true := by simpa using h
    have hcl : g_cl T len σ.1 (g_El σ.2.1 σ.2.2.1 σ.2.2.2.1) i = g_cln T len (g_Z T len i) := by unfold g_cl; rw [if_pos h']
    rw [hcl] at K0 K1
    have h1 : g_isw T (g_P T len i) (g_Z T len i) 1 = false := by
      cases hq : g_isw T (g_P T len i) (g_Z T len i) 1 with
      | false => rfl
      | true =>
        have a := (of_decide_eq_true h').1
        have b := (of_decide_eq_true hq).1
        rw [a] at b
        exact absurd b (by show ¬ (g_P T len i + 5 = g_P T len i + 4); omega)
    rw [h', h1]
    refine bX10_clause_43 (bX10_clause_48 (s_takes (ok := true) f1 hk.1 hk.2 (fun I2 s2 b1 b2 => bX10_clause_51 (fun q => absurd q (by decide)) (fun _ => bX10_clause_55 (fun q => absurd b1 q) (fun _ => bX10_clause_62 ?_)))))
    rw [if_neg (by simp), show g_P T len i + (g_Z T len i - g_P T len i) = g_Z T len i by omega] at b2
    have s12 : Sm S_rd I I2 := (s1.mono (by decide)).tr (s2.mono (by decide))
    have s12' : Sm [3160, 3161, 3162] I I2 := (s1.mono (by decide)).tr (s2.mono (by decide))
    refine s_readsNodes (σ := σ) (hT.sm s12 (by decide) (by decide)) z.2.2.2 b2 b1 (by rw [s12 _ (by decide)]; exact hD) (fun I3 p s3 c1 c2 c3 => bX10_clause_66 (bX10_clause_84 (K0 I3 p (s12.tr s3) c1 c2 c3))) (fun I3 cl e s3 s3' c1 c2 c3 c4 c5 => bX10_clause_66 (bX10_clause_84 (K1 I3 cl e ((s12.mono (by decide)).tr s3) (fun q => s12.tr (s3' q)) c1 c2 c3 c4 (fun q => ⟨(c5 q).1, ?_⟩))))
    obtain ⟨d1, d2, d3⟩ := (c5 q).2
    exact ⟨by rw [d1, s12 _ (by decide)], by rw [d2, s12 _ (by decide)], by rw [d3, s12 _ (by decide)]⟩
  · -- neither
    rw [i_b0] at h h2
    have hcl : g_cl T len σ.1 (g_El σ.2.1 σ.2.2.1 σ.2.2.2.1) i = .inl (g_P T len i) := by unfold g_cl; rw [if_neg (by rw [h]; simp), if_neg (by rw [h2]; simp)]
    rw [h, h2]
    refine bX10_clause_47 (bX10_clause_48 (s_takes (ok := false) f1 hk.1 hk.2 (fun I2 s2 b1 b2 => bX10_clause_51 (fun _ => bX10_clause_69 (fun _ => bX10_clause_84 ?_) (fun q => absurd rfl q)) (fun q => absurd rfl q))))
    rw [if_pos (by rfl)] at b2
    exact K0 I2 _ ((s1.mono (by decide)).tr (s2.mono (by decide))) hcl b1 b2
  · -- a link
    rw [i_b0] at h h2
    have h2' : g_isw T (g_P T len i) (g_Z T len i) 1 = true := by simpa using h2
    have hcl : g_cl T len σ.1 (g_El σ.2.1 σ.2.2.1 σ.2.2.2.1) i = g_cll T len σ.1 (g_El σ.2.1 σ.2.2.1 σ.2.2.2.1) (g_Z T len i) := by unfold g_cl; rw [if_neg (by rw [h]; simp), if_pos h2']
    rw [hcl] at K0 K1
    rw [h, h2']
    refine bX10_clause_43 (bX10_clause_48 (s_takes (ok := true) f1 hk.1 hk.2 (fun I2 s2 b1 b2 => bX10_clause_51 (fun _ => bX10_clause_69 (fun q => absurd q (by decide)) (fun _ => bX10_clause_73 (fun q => absurd b1 q) (fun _ => bX10_clause_80 ?_))) (fun q => absurd rfl q))))
    rw [if_neg (by simp), show g_P T len i + (g_Z T len i - g_P T len i) = g_Z T len i by omega] at b2
    have s12 : Sm [3160, 3161, 3162] I I2 := (s1.mono (by decide)).tr (s2.mono (by decide))
    have rd2 : mRd I2 σ := by
      obtain ⟨n, ln, lo, hi, c0, c1, U, seen⟩ := σ
      obtain ⟨y1, y2, y3⟩ := hR
      exact ⟨by rw [s12 _ (by decide)]; exact y1, by rw [s12 _ (by decide)]; exact y2, fun l hl => by rw [s12 _ (by decide), s12 _ (by decide)]; exact y3 l hl⟩
    refine s_readsLink hok rd2 (fun q => (hS q).sm s12 (by decide) (by decide) (by decide) (by decide) (by decide)) (hT.sm s12 (by decide) (by decide)) z.2.2.2 b2 b1 (by rw [s12 _ (by decide)]; exact hD) (fun I3 p s3 c1 c2 c3 => bX10_clause_84 (K0 I3 p ((s12.mono (by decide)).tr s3) c1 c2 c3)) (fun I3 cl e s3 s3' c1 c2 c3 c4 c5 => bX10_clause_84 (K1 I3 cl e ((s12.mono (by decide)).tr s3) (fun q => (s12.mono (by decide)).tr (s3' q)) c1 c2 c3 c4 (fun q => ⟨(c5 q).1, ?_⟩)))
    obtain ⟨d1, d2, d3⟩ := (c5 q).2
    exact ⟨by rw [d1, s12 _ (by decide)], by rw [d2, s12 _ (by decide)], by rw [d3, s12 _ (by decide)]⟩
