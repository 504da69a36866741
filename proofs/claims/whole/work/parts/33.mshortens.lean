/-! ===== the reference's short list, whole ===== -/
def g_v9 (x : Nat) : Nat := if x = 1000 then 9999 else x
theorem g_v9_1000 : g_v9 1000 = 9999 := rfl
theorem g_v9_lt {x : Nat} (h : x < 1000) : g_v9 x = x := by unfold g_v9; rw [if_neg (by omega)]
theorem g_v9_le {x : Nat} (h : x = 1000 ∨ x ≤ 8) : g_v9 x ≤ 9999 := by unfold g_v9; split <;> omega
noncomputable def g_wt (ln : Nat) (lo hi : Nat → Nat) (W : Nat → Nat) (by_ : Nat → Nat → Option Nat) (i j : Nat) : Nat := if by_ i j = some 2 then (g_lk ln lo hi (W i) (W j)).getD 0 else W j
def mSL (I : Nat → Nat → Int32) (ln : Nat) (lo hi : Nat → Nat) (W : Nat → Nat) (by_ : Nat → Nat → Option Nat) (T : Nat) (ps : Nat → Nat) : Prop := I 3155 0 = nI T ∧ ∀ t, t < T → I 3968 t = i_o (by_ (ps t) (ps (t + 1))) ∧ I 4032 t = nI (g_wt ln lo hi W by_ (ps t) (ps (t + 1)))
theorem s_shortens {n ln S a N m : Nat} {d1 : Bool} {lo hi c0 c1 W : Nat → Nat} {I : Nat → Nat → Int32} {L : Nat → Int64} {Q : Option Value → (Nat → Nat → Int32) → (Nat → Int64) → Prop} {by_ : Nat → Nat → Option Nat} (hm8 : m ≤ 8) (hm0 : 0 < m) (hmN : m ≤ N) (hN2 : N < 2 ^ 30) (ha : x_SH[a]? = some (1, N)) (haS : ∀ r, r ∈ [3712, 3840, 3904, 3155, 3968, 4032] → 64 * a ≠ r)
    (hG : mG I n ln lo hi) (hN : g_net n ln lo hi) (hC0 : mC I ln 0 c0) (hC1 : mC I ln 1 c1) (hc0 : g_cs ln c0) (hc1 : g_cs ln c1) (hS : S < 2 ^ 31) (hW : ∀ p, p < m → I (64 * a) p = nI (W p) ∧ W p < n)
    (hby : by_ = g_by (g_nxt (g_e ln lo hi c0 S) n) (g_nxt (g_e ln lo hi c1 S) n) d1 ln lo hi S W)
    (K1 : ∀ I' f T ps, Sm [3712, 3840, 3904, 3155, 3968, 4032] I I' → g_sf by_ m f → f 0 < 1000 → g_sl by_ m f T ps → T < 8 → mSL I' ln lo hi W by_ T ps → Q (some (.int 1)) I' L)
    (K0 : ∀ I' f, Sm [3712, 3840, 3904, 3155, 3968, 4032] I I' → g_sf by_ m f → ¬ f 0 < 1000 → Q (some (.int 0)) I' L) :
    XS mX10_shortens 0 [(0, .ref 49), (1, .ref a), (2, .int (nI m)), (3, .int (nI S)), (4, .int (nI (if d1 = true then 7 else 5)))] [] I L Q := by
  have hln := hN.2.2.1
  have hn8 := hN.2.1
  refine bX10_shortens_0 (s_laysBy hm8 hm0 hmN hN2 ha (haS _ (by simp)) (haS _ (by simp)) hG hN hC0 hC1 hc0 hc1 hS hW (fun I1 s1 hB1 => bX10_shortens_9 ?_))
  rw [← hby] at hB1
  have s1' : Sm [3712, 3840, 3904, 3155, 3968, 4032] I I1 := s1.mono (by simp)
  have kG : ∀ {I'}, Sm [3712, 3840, 3904, 3155, 3968, 4032] I I' → mG I' n ln lo hi := fun hs => hG.sm hs (by decide) (by decide) (by decide) (by decide)
  have kW : ∀ {I'}, Sm [3712, 3840, 3904, 3155, 3968, 4032] I I' → ∀ p, p < m → I' (64 * a) p = nI (W p) ∧ W p < n := fun hs p hp => by
    rw [hs (64 * a) (fun q => haS _ q rfl)]; exact hW p hp
  have bB : ∀ {I' : Nat → Nat → Int32}, I' 3840 = I1 3840 → ∀ i j, i < j → j < m → I' 3840 (8 * i + j) = i_o (by_ i j) := fun h i j hij hjm => by
    rw [h, hB1 i j (by omega) (by omega)]
    dsimp only
    rw [if_pos ⟨hij, hjm⟩]
  have by3 : ∀ i j k, by_ i j = some k → k < 3 := fun i j k h => by rw [hby] at h; exact g_by_lt h
  -- the second half: the segments
  have second : ∀ (f : Nat → Nat), g_sf by_ m f → f 0 < 1000 → ∀ d t ps I', ps t + d + 1 = m → ps 0 = 0 → (∀ s, s < t → g_jp by_ m f (ps s) (ps (s + 1))) → Sm [3712, 3840, 3904, 3155, 3968, 4032] I I' → I' 3840 = I1 3840 → (∀ p, p < m → I' 3904 p = nI (g_v9 (f p))) → mSL I' ln lo hi W by_ t ps →
      XS mX10_shortens 161 [(0, .ref 49), (1, .ref a), (2, .int (nI m)), (5, .int (nI (ps t)))] [] I' L Q := by
    intro f hf hf0 d
    induction d using Nat.strongRecOn with
    | ind d ih =>
      intro t ps I' hd h0 hjp hs hby' hfw hsl
      have hft := g_sl_f hjp h0 t (Nat.le_refl _)
      have em1 : nI m - (1 : Int32) = nI (m - 1) := i_sub (a := m) (b := 1) (by omega)
      by_cases hend : d = 0
      · refine bX10_shortens_161 (fun _ => bX10_shortens_300 (K1 I' f t ps hs hf hf0 ⟨h0, by omega, hjp⟩ (by omega) hsl)) (fun h => ?_)
        rw [em1, nI_leI (by omega) (by omega)] at h
        omega
      · have hsfi := hf.2 (ps t) (by omega)
        obtain ⟨jj, hjj⟩ := g_jp_ex hsfi (by omega)
        have hfb : f (ps t) ≤ 8 := by rcases hsfi.1 with q | q <;> omega
        have fb : ∀ p, p < m → f p = 1000 ∨ f p ≤ 8 := fun p hp => by
          by_cases hpm : p + 1 < m
          · rcases (hf.2 p hpm).1 with q | q <;> omega
          · rw [show p = m - 1 by omega, hf.1]; omega
        -- the way back from the last place
        have back : ∀ k j, jj + k = j → j < m → XS mX10_shortens 174 [(0, .ref 49), (1, .ref a), (2, .int (nI m)), (5, .int (nI (ps t))), (6, .int (nI j))] [] I' L Q := by
          intro k
          have hix : ∀ j, (8 : Int32) * nI (ps t) + nI j = nI (8 * ps t + j) := fun j => by rw [i_8mul, nI_add]
          have hvp : ∀ j, j < m → vp_in ((8 : Int32) * nI (ps t) + nI j) 64 := fun j hj => i_vp _ (hix j) (by omega) (by decide)
          induction k with
          | zero =>
            intro j hj hjm
            have hjj' : j = jj := by omega
            subst hjj'
            obtain ⟨q1, q2, q3, q4, q5⟩ := id hjj
            have fj : f j ≤ 8 := by omega
            refine bX10_shortens_174 (hvp j hjm) (fun h => ?_) (fun _ => bX10_shortens_191 (vp_in_nI (by omega) (by decide)) (vp_in_nI (by omega) (by decide)) (fun _ => ?_) (fun h => ?_))
            · rw [hix, nI_clamp (by omega), bB hby' _ _ q1 q2] at h
              cases hb : by_ (ps t) j with
              | none => exact absurd hb q3
              | some z => rw [hb] at h; exact absurd h (i_m1ne (by have := by3 _ _ _ hb; omega))
            · have hvs : vp_in (I' 3155 0) 8 := i_vp t hsl.1 (by omega) (by decide)
              have goOn : ∀ I2, Sm [3712, 3840, 3904, 3155, 3968, 4032] I I2 → I2 3840 = I1 3840 → I2 3904 = I' 3904 → I2 3155 0 = nI t → (∀ s, s < t → I2 3968 s = I' 3968 s ∧ I2 4032 s = I' 4032 s) → I2 3968 t = i_o (by_ (ps t) j) → XS mX10_shortens 282 [(0, .ref 49), (1, .ref a), (2, .int (nI m)), (6, .int (nI j))] [.int (nI (g_wt ln lo hi W by_ (ps t) j)), .int (nI t), .ref 63] I2 L Q := by
                intro I2 hs2 hb2 hf2 hm2 hk2 hk3
                refine bX10_shortens_282 (vp_in_nI (by omega) (by decide)) ?_
                rw [nI_clamp (by omega), x_up_ne (by decide), hm2, nI_1]
                obtain ⟨ps', e1, e2⟩ : ∃ ps' : Nat → Nat, (∀ s, s ≤ t → ps' s = ps s) ∧ ps' (t + 1) = j := ⟨fun s => if s ≤ t then ps s else j, fun s hs => by simp [hs], by simp; omega⟩
                have := ih (m - 1 - j) (by omega) (t + 1) ps' (x_up (x_up I2 4032 t (nI (g_wt ln lo hi W by_ (ps t) j))) 3155 0 (nI (t + 1))) (by rw [e2]; omega) (by rw [e1 0 (by omega)]; exact h0) (fun s hs' => by
                    by_cases hst : s = t
                    · subst hst; rw [e1 s (by omega), e2]; exact hjj
                    · rw [e1 s (by omega), e1 (s + 1) (by omega)]; exact hjp s (by omega)) ((hs2.up (by simp)).up (by simp)) (by rw [x_up_ne (by decide), x_up_ne (by decide)]; exact hb2) (fun p hp => by rw [x_up_ne (by decide), x_up_ne (by decide), hf2]; exact hfw p hp) ⟨by rw [x_up_at], fun s hs' => ?_⟩
                · rw [e2] at this
                  exact this
                · by_cases hst : s = t
                  · subst hst
                    rw [e1 s (by omega), e2]
                    exact ⟨by rw [x_up_ne (by decide), x_up_ne (by decide)]; exact hk3, by rw [x_up_ne (by decide), x_up_at]⟩
                  · rw [e1 s (by omega), e1 (s + 1) (by omega)]
                    have a1 := hsl.2 s (by omega)
                    have a2 := hk2 s (by omega)
                    exact ⟨by rw [x_up_ne (by decide), x_up_ne (by decide), a2.1]; exact a1.1, by rw [x_up_ne (by decide), x_up_off hst, a2.2]; exact a1.2⟩
              have hsK : Sm [3712, 3840, 3904, 3155, 3968, 4032] I (x_up I' 3968 t (i_o (by_ (ps t) j))) := hs.up (by simp)
              refine bX10_shortens_216 (hvp j hjm) hvs (hvp j hjm) (fun h => ?_) (fun h => ?_)
              · rw [hix, nI_clamp (by omega), hsl.1, nI_clamp (by omega), x_up_ne (by decide), bB hby' _ _ q1 q2] at h
                rw [hix, nI_clamp (by omega), hsl.1, nI_clamp (by omega), bB hby' _ _ q1 q2, x_up_ne (by decide), hsl.1]
                refine bX10_shortens_278 ha (vp_in_nI (by omega) (by omega)) ?_
                rw [nI_clamp (by omega), (kW hsK j hjm).1]
                have hw : g_wt ln lo hi W by_ (ps t) j = W j := by
                  unfold g_wt
                  rw [if_neg]
                  intro hb; rw [hb] at h; exact h rfl
                rw [← hw]
                exact goOn _ hsK (by rw [x_up_ne (by decide)]; exact hby') (by rw [x_up_ne (by decide)]) (by rw [x_up_ne (by decide)]; exact hsl.1) (fun s hs' => ⟨by rw [x_up_off (by omega)], by rw [x_up_ne (by decide)]⟩) (by rw [x_up_at])
              · rw [hix, nI_clamp (by omega), hsl.1, nI_clamp (by omega), x_up_ne (by decide), bB hby' _ _ q1 q2] at h
                rw [hix, nI_clamp (by omega), hsl.1, nI_clamp (by omega), bB hby' _ _ q1 q2, x_up_ne (by decide), hsl.1]
                have hb2 : by_ (ps t) j = some 2 := by
                  cases hb : by_ (ps t) j with
                  | none => exact absurd hb q3
                  | some z =>
                    rw [hb] at h
                    have := by3 _ _ _ hb
                    have h' := (i_eq z 2 rfl rfl (by omega) (by omega)).mp h
                    rw [h']
                have hl2 : g_l2 ln lo hi S W (ps t) j := by rw [hby] at hb2; exact g_by_2 hb2
                obtain ⟨_, l, hl, _⟩ := hl2
                have hll := (g_lk_lt hN hl).1
                refine bX10_shortens_263 ha (vp_in_nI (by omega) (by omega)) (vp_in_nI (by omega) (by omega)) ?_
                rw [nI_clamp (by omega), nI_clamp (by omega), (kW hsK (ps t) (by omega)).1, (kW hsK j hjm).1]
                have w1 := (kW hsK (ps t) (by omega)).2
                have w2 := (kW hsK j hjm).2
                refine s_linkOf (kG hsK) hN (by omega) (by omega) ?_
                rw [hl]
                have hw : g_wt ln lo hi W by_ (ps t) j = l := by
                  unfold g_wt
                  rw [if_pos hb2, hl]; rfl
                refine bX10_shortens_275 ?_
                show XS mX10_shortens 282 _ [.int (nI l), .int (nI t), .ref 63] _ _ _
                rw [← hw]
                exact goOn _ hsK (by rw [x_up_ne (by decide)]; exact hby') (by rw [x_up_ne (by decide)]) (by rw [x_up_ne (by decide)]; exact hsl.1) (fun s hs' => ⟨by rw [x_up_off (by omega)], by rw [x_up_ne (by decide)]⟩) (by rw [x_up_at])
            · rw [nI_clamp (by omega), nI_clamp (by omega), hfw j hjm, hfw (ps t) (by omega), g_v9_lt (by omega), g_v9_lt (by omega), nI_1, nI_eq (by omega) (by omega)] at h
              omega
          | succ k ihk =>
            intro j hj hjm
            have hnot := hjj.2.2.2.2 j (by omega) hjm
            have nxt : XS mX10_shortens 210 [(0, .ref 49), (1, .ref a), (2, .int (nI m)), (5, .int (nI (ps t))), (6, .int (nI j))] [] I' L Q := by
              refine bX10_shortens_210 ?_
              rw [show j = (j - 1) + 1 by omega, pk_m1]
              exact ihk (j - 1) (by omega) (by omega)
            refine bX10_shortens_174 (hvp j hjm) (fun _ => nxt) (fun h => bX10_shortens_191 (vp_in_nI (by omega) (by decide)) (vp_in_nI (by omega) (by decide)) (fun h2 => ?_) (fun _ => nxt))
            rw [hix, nI_clamp (by omega), bB hby' _ _ (by have := hjj.1; omega) hjm] at h
            have fj := fb j hjm
            have fj9 := g_v9_le fj
            rw [nI_clamp (by omega), nI_clamp (by omega), hfw j hjm, hfw (ps t) (by omega), nI_1, nI_eq (by omega) (by rw [g_v9_lt (by omega)]; omega)] at h2
            exfalso
            refine hnot ⟨fun hb => ?_, ?_⟩
            · rw [hb] at h; exact h rfl
            · rw [g_v9_lt (x := f (ps t)) (by omega)] at h2
              rcases fj with q | q
              · rw [q, g_v9_1000] at h2; omega
              · rw [g_v9_lt (by omega)] at h2; exact h2
        refine bX10_shortens_161 (fun h => ?_) (fun _ => bX10_shortens_169 ?_)
        · rw [em1, nI_leI (by omega) (by omega)] at h
          omega
        · rw [em1]
          exact back (m - 1 - jj) (m - 1) (by have := hjj.2.1; omega) (by omega)
  -- the first half: how few
  have inner : ∀ i f, i < m → (f (m - 1) = 0 ∨ i + 1 = m) → (∀ p, i < p → p + 1 < m → g_sfi by_ m f p) → (∀ I' v, Sm [3712, 3840, 3904, 3155, 3968, 4032] I I' → I' 3840 = I1 3840 → (∀ p, i < p → p < m → I' 3904 p = nI (g_v9 (f p))) → I' 3904 i = nI (g_v9 v) → ((i + 1 = m ∧ v = 0) ∨ (i + 1 < m ∧ (v = 1000 ∨ v + i + 1 ≤ m) ∧ (∀ j, i < j → j < m → by_ i j ≠ none → f j < 1000 → v ≤ f j + 1) ∧ g_att by_ m f i v)) → XS mX10_shortens 133 [(0, .ref 49), (1, .ref a), (2, .int (nI m)), (5, .int (nI i))] [] I' L Q) →
      ∀ d j I' v, j + d = m → i < j → Sm [3712, 3840, 3904, 3155, 3968, 4032] I I' → I' 3840 = I1 3840 → (∀ p, i < p → p < m → I' 3904 p = nI (g_v9 (f p))) → I' 3904 i = nI (g_v9 v) → ((i + 1 = m ∧ v = 0) ∨ (i + 1 < m ∧ (v = 1000 ∨ v + i + 1 ≤ m) ∧ (∀ j', i < j' → j' < j → by_ i j' ≠ none → f j' < 1000 → v ≤ f j' + 1) ∧ g_att by_ m f i v)) →
      XS mX10_shortens 47 [(0, .ref 49), (1, .ref a), (2, .int (nI m)), (5, .int (nI i)), (6, .int (nI j))] [] I' L Q := by
    intro i f him hlast hsfi KK d
    induction d with
    | zero =>
      intro j I' v hj hij hs hb hfw hfi hinv
      have : j = m := by omega
      subst this
      refine bX10_shortens_47 (fun _ => KK I' v hs hb hfw hfi hinv) (fun h => ?_)
      exact absurd ((nI_leI (by omega) (by omega)).mpr (Nat.le_refl _)) h
    | succ d ih =>
      intro j I' v hj hij hs hb hfw hfi hinv
      have hinv' := hinv.resolve_left (by omega)
      obtain ⟨v0, v1, v2, v3⟩ := hinv'
      have hfl : f (m - 1) = 0 := hlast.resolve_right (by omega)
      have fb : f j = 1000 ∨ f j + j + 1 ≤ m := by
        by_cases hjm : j + 1 < m
        · exact (hsfi j hij hjm).1
        · rw [show j = m - 1 by omega, hfl]; omega
      have hix : (8 : Int32) * nI i + nI j = nI (8 * i + j) := by rw [i_8mul, nI_add]
      have fj9 := g_v9_le (show f j = 1000 ∨ f j ≤ 8 by omega)
      have v9 := g_v9_le (show v = 1000 ∨ v ≤ 8 by omega)
      have put : ∀ v', I' 3904 i = I' 3904 i → (v' = 1000 ∨ v' + i + 1 ≤ m) → (∀ j', i < j' → j' < j + 1 → by_ i j' ≠ none → f j' < 1000 → v' ≤ f j' + 1) → g_att by_ m f i v' → XS mX10_shortens 126 [(0, .ref 49), (1, .ref a), (2, .int (nI m)), (5, .int (nI i)), (6, .int (nI j))] [.int (nI (g_v9 v')), .int (nI i), .ref 61] I' L Q := by
        intro v' _ w1 w2 w3
        refine bX10_shortens_126 (vp_in_nI (by omega) (by decide)) ?_
        rw [nI_1, nI_clamp (by omega)]
        exact ih (j + 1) _ v' (by omega) (by omega) (hs.up (by simp)) (by rw [x_up_ne (by decide)]; exact hb) (fun p hp hpm => by rw [x_up_off (by omega)]; exact hfw p hp hpm) (by rw [x_up_at]) (Or.inr ⟨v0, w1, w2, w3⟩)
      have keep : (by_ i j = none ∨ v ≤ f j + 1) → XS mX10_shortens 93 [(0, .ref 49), (1, .ref a), (2, .int (nI m)), (5, .int (nI i)), (6, .int (nI j))] [] I' L Q := fun hk => by
        refine bX10_shortens_93 (bX10_shortens_94 (fun _ => bX10_shortens_119 (vp_in_nI (by omega) (by decide)) ?_) (fun h => absurd rfl h))
        rw [nI_clamp (by omega), hfi]
        refine put v rfl v1 (fun j' h1 h2 h3 h4 => ?_) v3
        by_cases hjj : j' = j
        · subst hjj
          rcases hk with q | q
          · exact absurd q h3
          · exact q
        · exact v2 j' h1 (by omega) h3 h4
      refine bX10_shortens_47 (fun h => ?_) (fun _ => bX10_shortens_53 (i_vp _ hix (by omega) (by decide)) (fun h => keep (Or.inl ?_)) (fun h => bX10_shortens_70 (vp_in_nI (by omega) (by decide)) (vp_in_nI (by omega) (by decide)) (fun h2 => keep (Or.inr ?_)) (fun h2 => bX10_shortens_89 (bX10_shortens_94 (fun h3 => absurd h3 (by decide)) (fun _ => bX10_shortens_107 (vp_in_nI (by omega) (by decide)) ?_)))))
      · rw [nI_leI (by omega) (by omega)] at h; omega
      · rw [hix, nI_clamp (by omega), bB hb i j hij (by omega)] at h
        cases hq : by_ i j with
        | none => rfl
        | some z => rw [hq] at h; exact absurd h (i_m1ne (by have := by3 _ _ _ hq; omega))
      · rw [nI_clamp (by omega), nI_clamp (by omega), hfi, hfw j hij (by omega), nI_1, nI_leI (by omega) (by omega)] at h2
        unfold g_v9 at h2
        split at h2 <;> split at h2 <;> omega
      · rw [hix, nI_clamp (by omega), bB hb i j hij (by omega)] at h
        have hbn : by_ i j ≠ none := fun q => by rw [q] at h; exact h rfl
        rw [nI_clamp (by omega), nI_clamp (by omega), hfi, hfw j hij (by omega), nI_1, nI_leI (by omega) (by omega)] at h2
        have hfj : f j < 1000 := by
          rcases fb with q | q
          · rw [q, g_v9_1000] at h2; omega
          · omega
        rw [g_v9_lt hfj] at h2
        have hv : f j + 1 < v := by
          unfold g_v9 at h2
          split at h2 <;> omega
        rw [nI_clamp (by omega), hfw j hij (by omega), g_v9_lt hfj, nI_1]
        have e9 : g_v9 (f j + 1) = f j + 1 := g_v9_lt (by omega)
        rw [← e9]
        refine put (f j + 1) rfl (Or.inr (by omega)) (fun j' h1 h3 h4 h5 => ?_) (fun _ => ⟨j, hij, by omega, hbn, hfj, rfl⟩)
        by_cases hjj : j' = j
        · subst hjj; omega
        · have := v2 j' h1 (by omega) h4 h5
          omega
  have place : ∀ i f I', i < m → (f (m - 1) = 0 ∨ i + 1 = m) → (∀ p, i < p → p + 1 < m → g_sfi by_ m f p) → Sm [3712, 3840, 3904, 3155, 3968, 4032] I I' → I' 3840 = I1 3840 → (∀ p, i < p → p < m → I' 3904 p = nI (g_v9 (f p))) →
      (∀ I2 f', f' (m - 1) = 0 → (∀ p, i ≤ p → p + 1 < m → g_sfi by_ m f' p) → Sm [3712, 3840, 3904, 3155, 3968, 4032] I I2 → I2 3840 = I1 3840 → (∀ p, i ≤ p → p < m → I2 3904 p = nI (g_v9 (f' p))) → XS mX10_shortens 133 [(0, .ref 49), (1, .ref a), (2, .int (nI m)), (5, .int (nI i))] [] I2 L Q) →
      XS mX10_shortens 14 [(0, .ref 49), (1, .ref a), (2, .int (nI m)), (5, .int (nI i))] [] I' L Q := by
    intro i f I' him hlast hsfi hs hb hfw KK
    have fin : ∀ I2 v, Sm [3712, 3840, 3904, 3155, 3968, 4032] I I2 → I2 3840 = I1 3840 → (∀ p, i < p → p < m → I2 3904 p = nI (g_v9 (f p))) → I2 3904 i = nI (g_v9 v) → ((i + 1 = m ∧ v = 0) ∨ (i + 1 < m ∧ (v = 1000 ∨ v + i + 1 ≤ m) ∧ (∀ j, i < j → j < m → by_ i j ≠ none → f j < 1000 → v ≤ f j + 1) ∧ g_att by_ m f i v)) → XS mX10_shortens 133 [(0, .ref 49), (1, .ref a), (2, .int (nI m)), (5, .int (nI i))] [] I2 L Q := by
      intro I2 v hs2 hb2 hfw2 hf2 hinv
      obtain ⟨f', fi, fo⟩ : ∃ f' : Nat → Nat, f' i = v ∧ ∀ p, p ≠ i → f' p = f p := ⟨fun p => if p = i then v else f p, by simp, fun p hp => by simp [hp]⟩
      refine KK I2 f' ?_ (fun p hp hpm => ?_) hs2 hb2 (fun p hp hpm => ?_)
      · rcases hinv with ⟨q1, q2⟩ | ⟨q1, _⟩
        · rw [show m - 1 = i by omega, fi, q2]
        · rw [fo _ (by omega)]; omega
      · by_cases hpi : p = i
        · subst hpi
          rcases hinv with ⟨q1, q2⟩ | ⟨q1, q2, q3, q4⟩
          · omega
          · refine ⟨by rw [fi]; exact q2, fun j hj hjm hbn hfj => ?_, fun hv => ?_⟩
            · rw [fo j (by omega)] at hfj ⊢
              rw [fi]; exact q3 j hj hjm hbn hfj
            · rw [fi] at hv
              obtain ⟨j, r1, r2, r3, r4, r5⟩ := q4 hv
              exact ⟨j, r1, r2, r3, by rw [fo j (by omega)]; exact r4, by rw [fi, fo j (by omega)]; exact r5⟩
        · obtain ⟨q2, q3, q4⟩ := hsfi p (by omega) hpm
          refine ⟨by rw [fo p hpi]; exact q2, fun j hj hjm hbn hfj => ?_, fun hv => ?_⟩
          · rw [fo j (by omega)] at hfj ⊢
            rw [fo p hpi]; exact q3 j hj hjm hbn hfj
          · rw [fo p hpi] at hv
            obtain ⟨j, r1, r2, r3, r4, r5⟩ := q4 hv
            exact ⟨j, r1, r2, r3, by rw [fo j (by omega)]; exact r4, by rw [fo p hpi, fo j (by omega)]; exact r5⟩
      · by_cases hpi : p = i
        · subst hpi; rw [fi]; exact hf2
        · rw [fo p hpi]; exact hfw2 p (by omega) hpm
    refine bX10_shortens_14 (fun h => absurd h (nI_pos (by omega))) (fun _ => bX10_shortens_19 (fun h => bX10_shortens_37 ?_) (fun h => bX10_shortens_33 ?_))
    · rw [show nI m - (1 : Int32) = nI (m - 1) from i_sub (a := m) (b := 1) (by omega), nI_eq (by omega) (by omega)] at h
      refine bX10_shortens_40 (vp_in_nI (by omega) (by decide)) ?_
      rw [nI_1, nI_clamp (by omega)]
      exact inner i f him hlast hsfi fin (m - (i + 1)) (i + 1) _ 1000 (by omega) (by omega) (hs.up (by simp)) (by rw [x_up_ne (by decide)]; exact hb) (fun p hp hpm => by rw [x_up_off (by omega)]; exact hfw p hp hpm) (by rw [x_up_at]; rfl) (Or.inr ⟨by omega, Or.inl rfl, fun j' h1 h2 => by omega, fun h => by omega⟩)
    · rw [show nI m - (1 : Int32) = nI (m - 1) from i_sub (a := m) (b := 1) (by omega), nI_eq (by omega) (by omega)] at h
      refine bX10_shortens_40 (vp_in_nI (by omega) (by decide)) ?_
      rw [nI_1, nI_clamp (by omega)]
      exact inner i f him hlast hsfi fin (m - (i + 1)) (i + 1) _ 0 (by omega) (by omega) (hs.up (by simp)) (by rw [x_up_ne (by decide)]; exact hb) (fun p hp hpm => by rw [x_up_off (by omega)]; exact hfw p hp hpm) (by rw [x_up_at]; rfl) (Or.inl ⟨by omega, rfl⟩)
  have finish : ∀ I2 f', f' (m - 1) = 0 → (∀ p, 0 ≤ p → p + 1 < m → g_sfi by_ m f' p) → Sm [3712, 3840, 3904, 3155, 3968, 4032] I I2 → I2 3840 = I1 3840 → (∀ p, 0 ≤ p → p < m → I2 3904 p = nI (g_v9 (f' p))) → XS mX10_shortens 139 [(0, .ref 49), (1, .ref a), (2, .int (nI m))] [] I2 L Q := by
    intro I2 f' h1 h2 hs hb hfw
    have hsf : g_sf by_ m f' := ⟨h1, fun i hi => h2 i (by omega) hi⟩
    have hf0 := hfw 0 (by omega) hm0
    have hs3 : Sm [3712, 3840, 3904, 3155, 3968, 4032] I (x_up I2 3155 0 0) := hs.up (by simp)
    have fb : f' 0 = 1000 ∨ f' 0 ≤ 8 := by
      by_cases hm1 : 1 < m
      · rcases (h2 0 (by omega) hm1).1 with q | q <;> omega
      · rw [show m - 1 = 0 by omega] at h1; omega
    have f9 := g_v9_le fb
    refine bX10_shortens_139 (fun h => bX10_shortens_158 ?_) (fun h => bX10_shortens_156 (K0 _ f' hs3 hsf ?_))
    · rw [x_up_ne (by decide), hf0] at h
      have h' := (i_lt _ 9999 rfl rfl (by omega) (by decide)).mp h
      have hlt : f' 0 < 1000 := by
        rcases fb with q | q
        · rw [q, g_v9_1000] at h'; omega
        · omega
      exact second f' hsf hlt (m - 1) 0 (fun _ => 0) _ (by omega) rfl (fun s hs' => by omega) hs3 (by rw [x_up_ne (by decide)]; exact hb) (fun p hp => by rw [x_up_ne (by decide)]; exact hfw p (by omega) hp) ⟨by rw [x_up_at]; rfl, fun t ht => by omega⟩
    · rw [x_up_ne (by decide), hf0] at h
      intro q
      apply h
      exact (i_lt _ 9999 rfl rfl (by omega) (by decide)).mpr (by rw [g_v9_lt q]; omega)
  have outer : ∀ i f I', i < m → (f (m - 1) = 0 ∨ i + 1 = m) → (∀ p, i < p → p + 1 < m → g_sfi by_ m f p) → Sm [3712, 3840, 3904, 3155, 3968, 4032] I I' → I' 3840 = I1 3840 → (∀ p, i < p → p < m → I' 3904 p = nI (g_v9 (f p))) →
      XS mX10_shortens 14 [(0, .ref 49), (1, .ref a), (2, .int (nI m)), (5, .int (nI i))] [] I' L Q := by
    intro i
    induction i with
    | zero =>
      intro f I' him hlast hsfi hs hb hfw
      refine place 0 f I' him hlast hsfi hs hb hfw (fun I2 f' h1 h2 hs2 hb2 hfw2 => bX10_shortens_133 (bX10_shortens_14 (fun _ => finish I2 f' h1 h2 hs2 hb2 hfw2) (fun h => absurd (by decide) h)))
    | succ i ih =>
      intro f I' him hlast hsfi hs hb hfw
      refine place (i + 1) f I' him hlast hsfi hs hb hfw (fun I2 f' h1 h2 hs2 hb2 hfw2 => bX10_shortens_133 ?_)
      rw [pk_m1]
      exact ih f' I2 (by omega) (Or.inl h1) (fun p hp hpm => h2 p (by omega) hpm) hs2 hb2 (fun p hp hpm => hfw2 p (by omega) hpm)
  have em1 : nI m - (1 : Int32) = nI (m - 1) := i_sub (a := m) (b := 1) (by omega)
  rw [em1]
  exact outer (m - 1) (fun _ => 0) I1 (by omega) (Or.inl rfl) (fun p hp hpm => by omega) s1' rfl (fun p hp hpm => by omega)
