/-! ===== the class's short list: its parts ===== -/
theorem c_followedFrom {n g : Nat} {W : Nat → Nat} {nx : Nat → Nat → Option Nat} {I : Nat → Nat → Int32} {L : Nat → Int64} {Q : Option Value → (Nat → Nat → Int32) → (Nat → Int64) → Prop} (hn8 : n ≤ 8) (hg : g < 8) (hnx : ∀ u w v, nx u w = some v → v < n) (hM : ∀ u, u < n → I 1152 u = i_o (nx u (W g))) (hW : ∀ p, p ≤ g → I 2112 p = nI (W p) ∧ W p < n)
    (K : ∀ q, q ≤ g → (∀ i, i ≤ g → (g_ld nx W i g ↔ q ≤ i)) → Q (some (.int (nI q))) I L) : XS mX0_followedFrom 0 [(0, .ref 31), (1, .int (nI g))] [] I L Q := by
  have key : ∀ q, q ≤ g → g_ld nx W q g → XS mX0_followedFrom 2 [(0, .ref 31), (2, .int (nI q))] [] I L Q := by
    intro q
    induction q with
    | zero =>
      intro _ hld
      refine bX0_followedFrom_2 (fun _ => bX0_followedFrom_42 (K 0 (by omega) (fun i hi => ⟨fun _ => by omega, fun _ p h1 h2 => hld p (by omega) h2⟩))) (fun h => absurd (by decide) h)
    | succ q ih =>
      intro hq hld
      have w1 := hW q (by omega)
      have w2 := hW (q + 1) hq
      refine bX0_followedFrom_2 (fun h => ?_) (fun _ => bX0_followedFrom_6 (i_vp q (nI_pred q) (by omega) (by decide)) ?_)
      · exact absurd h (nI_nle (by omega) (by omega))
      · rw [nI_pred, nI_clamp (by omega), w1.1]
        refine c_nodeAhead (by omega) (bX0_followedFrom_24 (vp_in_nI (by omega) (by decide)) (fun h => bX0_followedFrom_42 ?_) (fun h => bX0_followedFrom_36 ?_))
        · rw [nI_clamp (by omega), w2.1, hM _ w1.2] at h
          refine K (q + 1) hq (fun i hi => ⟨fun hl => ?_, fun hqi p h1 h2 => hld p (by omega) h2⟩)
          by_cases hiq : q + 1 ≤ i
          · exact hiq
          · have := hl q (by omega) (by omega)
            rw [this] at h
            exact absurd rfl h
        · rw [nI_clamp (by omega), w2.1, hM _ w1.2] at h
          rw [pk_m1]
          refine ih (by omega) (fun p h1 h2 => ?_)
          by_cases hpq : p = q
          · subst hpq
            cases hx : nx (W p) (W g) with
            | none => rw [hx] at h; exact absurd h.symm (i_m1ne (by omega))
            | some y =>
              rw [hx] at h
              have hy := hnx _ _ _ hx
              have : y = W (p + 1) := (nI_eq (by omega) (by omega)).mp h
              rw [this]
          · exact hld p (by omega) h2
  exact bX0_followedFrom_0 (key g (Nat.le_refl _) (fun p h1 h2 => by omega))
def g_li (ln : Nat) (lo hi : Nat → Nat) (S : Nat) (W : Nat → Nat) (p : Nat) : Option Nat := match g_lk ln lo hi (W p) (W (p + 1)) with
  | some l => if S.testBit l = true then some l else none
  | none => none
theorem g_li_l2 {ln : Nat} {lo hi : Nat → Nat} {S : Nat} {W : Nat → Nat} {i j : Nat} : g_l2 ln lo hi S W i j ↔ j = i + 1 ∧ g_li ln lo hi S W i ≠ none := by
  unfold g_l2 g_li
  constructor
  · rintro ⟨rfl, l, h1, h2⟩
    refine ⟨rfl, ?_⟩
    rw [h1]
    simp [h2]
  · rintro ⟨rfl, h⟩
    refine ⟨rfl, ?_⟩
    cases hl : g_lk ln lo hi (W i) (W (i + 1)) with
    | none => rw [hl] at h; exact absurd rfl h
    | some l =>
      rw [hl] at h
      by_cases hb : S.testBit l = true
      · exact ⟨l, rfl, hb⟩
      · simp [hb] at h
theorem c_linkIn {n ln S p : Nat} {lo hi W : Nat → Nat} {I : Nat → Nat → Int32} {L : Nat → Int64} {Q : Option Value → (Nat → Nat → Int32) → (Nat → Int64) → Prop} (hG : cG I n ln lo hi) (hN : g_net n ln lo hi) (hS : S < 2 ^ 31) (h1 : W p < n) (h2 : W (p + 1) < n) (K : Q (some (.int (i_o (g_li ln lo hi S W p)))) I L) : XS mX0_linkIn 0 [(0, .ref 31), (1, .int (nI S)), (2, .int (nI (W p))), (3, .int (nI (W (p + 1))))] [] I L Q := by
  have hn8 := hN.2.1
  have hln := hN.2.2.1
  refine bX0_linkIn_0 (c_linkBetween hG hN (by omega) (by omega) ?_)
  cases hl : g_lk ln lo hi (W p) (W (p + 1)) with
  | none =>
    have : g_li ln lo hi S W p = none := by unfold g_li; rw [hl]
    rw [this] at K
    exact bX0_linkIn_9 (fun _ => bX0_linkIn_32 (bX0_linkIn_33 K)) (fun h => absurd rfl h)
  | some l =>
    have hll := (g_lk_lt hN hl).1
    refine bX0_linkIn_9 (fun h => absurd h (i_m1ne (by omega))) (fun _ => ?_)
    refine bX0_linkIn_17 (v4 := nI l) (fun h => ?_) (fun h => ?_)
    · rw [i_bit hS (by omega), i_b1] at h
      have : g_li ln lo hi S W p = none := by unfold g_li; rw [hl]; simp [h]
      rw [this] at K
      exact bX0_linkIn_32 (bX0_linkIn_33 K)
    · rw [i_bit hS (by omega), i_b1] at h
      have : g_li ln lo hi S W p = some l := by unfold g_li; rw [hl]; simp [h]
      rw [this] at K
      exact bX0_linkIn_27 (bX0_linkIn_33 K)
/-- how far back each place is led to -/
def cAl (I : Nat → Nat → Int32) (nx0 nx1 : Nat → Nat → Option Nat) (d1 : Bool) (W : Nat → Nat) (j : Nat) : Prop := ∃ q r, I 2176 j = nI q ∧ q ≤ j ∧ (∀ i, i ≤ j → (g_ld nx0 W i j ↔ q ≤ i)) ∧ I 2240 j = nI r ∧ r ≤ j ∧ ∀ i, i < j → ((d1 = true ∧ g_ld nx1 W i j) ↔ r ≤ i)
theorem c_lowestKind {ln S p g : Nat} {d1 : Bool} {lo hi W : Nat → Nat} {nx0 nx1 : Nat → Nat → Option Nat} {I : Nat → Nat → Int32} {L : Nat → Int64} {Q : Option Value → (Nat → Nat → Int32) → (Nat → Int64) → Prop} (hpg : p < g) (hg : g < 8) (hlb : ∀ l, g_li ln lo hi S W p = some l → l < 2 ^ 31) (hA : cAl I nx0 nx1 d1 W g) (hl : I 2304 p = i_o (g_li ln lo hi S W p)) (K : Q (some (.int (i_o (g_by nx0 nx1 d1 ln lo hi S W p g)))) I L) : XS mX0_lowestKind 0 [(0, .ref 31), (1, .int (nI p)), (2, .int (nI g))] [] I L Q := by
  obtain ⟨q, r, a1, a2, a3, a4, a5, a6⟩ := hA
  have hvg : vp_in (nI g) 8 := vp_in_nI hg (by decide)
  have hvp : vp_in (nI p) 8 := vp_in_nI (by omega) (by decide)
  refine bX0_lowestKind_0 hvg (fun h => bX0_lowestKind_12 hvg (fun h2 => bX0_lowestKind_24 (fun h3 => bX0_lowestKind_45 (bX0_lowestKind_46 ?_)) (fun h3 => bX0_lowestKind_31 hvp (fun h4 => bX0_lowestKind_45 (bX0_lowestKind_46 ?_)) (fun h4 => bX0_lowestKind_41 (bX0_lowestKind_46 ?_)))) (fun h2 => bX0_lowestKind_22 ?_)) (fun h => bX0_lowestKind_10 ?_)
  all_goals
    rw [nI_clamp (by omega), a1, nI_ltI (by omega) (by omega)] at h
  · rw [nI_clamp (by omega), a4, nI_ltI (by omega) (by omega)] at h2
    rw [nI_1, nI_eq (by omega) (by omega)] at h3
    have e : g_by nx0 nx1 d1 ln lo hi S W p g = none := by
      unfold g_by g_by1 g_by2
      rw [if_neg (by rw [g_p_iff, a3 p (by omega)]; omega), if_neg (by rw [Bool.and_eq_true, g_p_iff, a6 p hpg]; omega), if_neg (by rw [g_p_iff]; intro q; exact h3 q.1)]
    rw [e] at K; exact K
  · rw [nI_clamp (by omega), a4, nI_ltI (by omega) (by omega)] at h2
    rw [nI_clamp (by omega), hl] at h4
    have hn : g_li ln lo hi S W p = none := by
      cases hx : g_li ln lo hi S W p with
      | none => rfl
      | some l => rw [hx] at h4; exact absurd h4 (i_m1ne (hlb l hx))
    have e : g_by nx0 nx1 d1 ln lo hi S W p g = none := by
      unfold g_by g_by1 g_by2
      rw [if_neg (by rw [g_p_iff, a3 p (by omega)]; omega), if_neg (by rw [Bool.and_eq_true, g_p_iff, a6 p hpg]; omega), if_neg (by rw [g_p_iff, g_li_l2]; intro q; exact q.2 hn)]
    rw [e] at K; exact K
  · rw [nI_clamp (by omega), a4, nI_ltI (by omega) (by omega)] at h2
    rw [nI_1, nI_eq (by omega) (by omega)] at h3
    rw [nI_clamp (by omega), hl] at h4
    have hn : g_li ln lo hi S W p ≠ none := by intro hx; rw [hx] at h4; exact h4 rfl
    have e : g_by nx0 nx1 d1 ln lo hi S W p g = some 2 := by
      unfold g_by g_by1 g_by2
      rw [if_neg (by rw [g_p_iff, a3 p (by omega)]; omega), if_neg (by rw [Bool.and_eq_true, g_p_iff, a6 p hpg]; omega), if_pos (by rw [g_p_iff, g_li_l2]; exact ⟨h3, hn⟩)]
    rw [e] at K; exact K
  · rw [nI_clamp (by omega), a4, nI_ltI (by omega) (by omega)] at h2
    have e : g_by nx0 nx1 d1 ln lo hi S W p g = some 1 := by
      unfold g_by g_by1
      rw [if_neg (by rw [g_p_iff, a3 p (by omega)]; omega), if_pos (by rw [Bool.and_eq_true, g_p_iff, a6 p hpg]; omega)]
    rw [e] at K; exact K
  · have e : g_by nx0 nx1 d1 ln lo hi S W p g = some 0 := by
      unfold g_by
      rw [if_pos (by rw [g_p_iff, a3 p (by omega)]; omega)]
    rw [e] at K; exact K
/-- what chooseFirst() leaves at a place -/
def cCh (I : Nat → Nat → Int32) (by_ : Nat → Nat → Option Nat) (m : Nat) (f : Nat → Nat) (p : Nat) : Prop := I 2368 p = nI (f p) ∧ (f p < 1000 → ∃ g, I 2432 p = nI g ∧ I 2496 p = i_o (by_ p g) ∧ g_jp by_ m f p g)
def g_cv (I' : Nat → Nat → Int32) (by_ : Nat → Nat → Option Nat) (m : Nat) (f : Nat → Nat) (p v : Nat) : Prop := v = 1000 ∨ ∃ gg, I' 2432 p = nI gg ∧ I' 2496 p = i_o (by_ p gg) ∧ p < gg ∧ gg < m ∧ by_ p gg ≠ none ∧ f gg < 1000 ∧ v = f gg + 1 ∧ ∀ j, gg < j → j < m → ¬ (by_ p j ≠ none ∧ f j + 1 = v)
theorem c_chooseFirst {ln S p m : Nat} {d1 : Bool} {lo hi W f : Nat → Nat} {nx0 nx1 : Nat → Nat → Option Nat} {by_ : Nat → Nat → Option Nat} {I : Nat → Nat → Int32} {L : Nat → Int64} {Q : Option Value → (Nat → Nat → Int32) → (Nat → Int64) → Prop} (hm8 : m ≤ 8) (hpm : p + 1 < m) (hln : ln ≤ 14) (hlb : ∀ l, g_li ln lo hi S W p = some l → l < ln) (hby : by_ = g_by nx0 nx1 d1 ln lo hi S W) (hlen : I 2049 0 = nI m) (hA : ∀ g, g < m → cAl I nx0 nx1 d1 W g) (hl : I 2304 p = i_o (g_li ln lo hi S W p))
    (hf : ∀ g, p < g → g < m → I 2368 g = nI (f g) ∧ (f g = 1000 ∨ f g + g + 1 ≤ m))
    (K : ∀ I' f', Sm [2368, 2432, 2496] I I' → (∀ q, q ≠ p → f' q = f q ∧ I' 2368 q = I 2368 q ∧ I' 2432 q = I 2432 q ∧ I' 2496 q = I 2496 q) → g_sfi by_ m f' p → cCh I' by_ m f' p → Q none I' L) :
    XS mX0_chooseFirst 0 [(0, .ref 31), (1, .int (nI p))] [] I L Q := by
  have by3 : ∀ i j k, by_ i j = some k → k < 3 := fun i j k h => by rw [hby] at h; exact g_by_lt h
  have hvp : vp_in (nI p) 8 := vp_in_nI (by omega) (by decide)
  have key : ∀ d g v I', p + d = g → g < m → Sm [2368, 2432, 2496] I I' → (∀ q, q ≠ p → I' 2368 q = I 2368 q ∧ I' 2432 q = I 2432 q ∧ I' 2496 q = I 2496 q) → I' 2368 p = nI v → (v = 1000 ∨ v + p + 1 ≤ m) → (∀ j, g < j → j < m → by_ p j ≠ none → f j < 1000 → v ≤ f j + 1) →
      g_cv I' by_ m f p v →
      XS mX0_chooseFirst 19 [(0, .ref 31), (1, .int (nI p)), (2, .int (nI g))] [] I' L Q := by
    intro d
    induction d with
    | zero =>
      intro g v I' hg hgm hs hoth hfp hv1 hv2 hv3
      refine bX0_chooseFirst_19 (fun _ => bX0_chooseFirst_87 ?_) (fun h => absurd ((nI_leI (by omega) (by omega)).mpr (by omega)) h)
      obtain ⟨f', fi, fo⟩ : ∃ f' : Nat → Nat, f' p = v ∧ ∀ q, q ≠ p → f' q = f q := ⟨fun q => if q = p then v else f q, by simp, fun q hq => by simp [hq]⟩
      refine K I' f' hs (fun q hq => ⟨fo q hq, hoth q hq⟩) ⟨by rw [fi]; exact hv1, fun j hj hjm hbn hfj => ?_, fun hlt => ?_⟩ ⟨by rw [fi]; exact hfp, fun hlt => ?_⟩
      · rw [fo j (by omega)] at hfj ⊢
        rw [fi]; exact hv2 j (by omega) hjm hbn hfj
      · rw [fi] at hlt
        rcases hv3 with q | ⟨gg, b1, b2, b3, b4, b5, b6, b7, b8⟩
        · omega
        · exact ⟨gg, b3, b4, b5, by rw [fo gg (by omega)]; exact b6, by rw [fi, fo gg (by omega)]; exact b7⟩
      · rw [fi] at hlt
        rcases hv3 with q | ⟨gg, b1, b2, b3, b4, b5, b6, b7, b8⟩
        · omega
        · refine ⟨gg, b1, b2, b3, b4, b5, by rw [fi, fo gg (by omega)]; exact b7.symm, fun j h1 h2 => ?_⟩
          rw [fi, fo j (by omega)]
          exact b8 j h1 h2
    | succ d ih =>
      intro g v I' hg hgm hs hoth hfp hv1 hv2 hv3
      have hfg := hf g (by omega) hgm
      have hfg' : I' 2368 g = nI (f g) := by rw [(hoth g (by omega)).1]; exact hfg.1
      have keepA : cAl I' nx0 nx1 d1 W g := by
        obtain ⟨q, r, c1, c2, c3, c4, c5, c6⟩ := hA g hgm
        exact ⟨q, r, by rw [hs _ (by decide)]; exact c1, c2, c3, by rw [hs _ (by decide)]; exact c4, c5, c6⟩
      have keepl : I' 2304 p = i_o (g_li ln lo hi S W p) := by rw [hs _ (by decide)]; exact hl
      have skip : (by_ p g = none ∨ v ≤ f g + 1) → XS mX0_chooseFirst 81 [(0, .ref 31), (1, .int (nI p)), (2, .int (nI g))] [] I' L Q := fun hk => by
        refine bX0_chooseFirst_81 ?_
        rw [show g = (g - 1) + 1 by omega, pk_m1]
        refine ih (g - 1) v I' (by omega) (by omega) hs hoth hfp hv1 (fun j h1 h2 h3 h4 => ?_) hv3
        by_cases hjg : j = g
        · subst hjg
          rcases hk with q | q
          · exact absurd q h3
          · exact q
        · exact hv2 j (by omega) h2 h3 h4
      refine bX0_chooseFirst_19 (fun h => ?_) (fun _ => bX0_chooseFirst_24 (c_lowestKind (by omega) (by omega) (fun l h => by have := hlb l h; omega) keepA keepl ?_))
      · rw [nI_leI (by omega) (by omega)] at h; omega
      · rw [← hby]
        cases hb : by_ p g with
        | none => exact bX0_chooseFirst_30 (fun _ => skip (Or.inl hb)) (fun h => absurd rfl h)
        | some k =>
          have hk3 := by3 _ _ _ hb
          refine bX0_chooseFirst_30 (fun h => absurd h (i_m1ne (by omega))) (fun _ => bX0_chooseFirst_36 (vp_in_nI (by omega) (by decide)) hvp (fun h => skip (Or.inr ?_)) (fun h => bX0_chooseFirst_53 (vp_in_nI (by omega) (by decide)) hvp hvp hvp (bX0_chooseFirst_81 ?_)))
          · rw [nI_clamp (by omega), nI_clamp (by omega), hfp, hfg', nI_1, nI_leI (by omega) (by omega)] at h
            exact h
          · rw [nI_clamp (by omega), nI_clamp (by omega), hfp, hfg', nI_1, nI_leI (by omega) (by omega)] at h
            have hflt : f g < 1000 := by rcases hfg.2 with q | q <;> omega
            rw [nI_clamp (by omega), nI_clamp (by omega), hfg', nI_1]
            rw [show g = (g - 1) + 1 by omega, pk_m1, show (g - 1) + 1 = g by omega]
            refine ih (g - 1) (f g + 1) _ (by omega) (by omega) (((hs.up (by simp)).up (by simp)).up (by simp)) (fun q hq => ?_) (by rw [x_up_ne (by decide), x_up_ne (by decide), x_up_at]) (Or.inr (by rcases hfg.2 with q | q <;> omega)) (fun j h1 h2 h3 h4 => ?_) (Or.inr ⟨g, by rw [x_up_ne (by decide), x_up_at], by rw [x_up_at, hb], by omega, hgm, by rw [hb]; simp, hflt, rfl, fun j h1 h2 q => ?_⟩)
            · have := hoth q hq
              exact ⟨by rw [x_up_ne (by decide), x_up_ne (by decide), x_up_off hq]; exact this.1, by rw [x_up_ne (by decide), x_up_off hq, x_up_ne (by decide)]; exact this.2.1, by rw [x_up_off hq, x_up_ne (by decide), x_up_ne (by decide)]; exact this.2.2⟩
            · by_cases hjg : j = g
              · subst hjg; omega
              · have := hv2 j (by omega) h2 h3 h4
                omega
            · have := hv2 j h1 h2 q.1 (by omega)
              omega
  refine bX0_chooseFirst_0 hvp ?_
  have e1 : (x_up I 2368 (nI p).toNatClampNeg 1000) 2049 0 - (1 : Int32) = nI (m - 1) := by
    rw [x_up_ne (by decide), hlen]
    exact i_sub (a := m) (b := 1) (by omega)
  rw [e1, nI_clamp (by omega)]
  refine key (m - 1 - p) (m - 1) 1000 _ (by omega) (by omega) (Sm.rf.up (by simp)) (fun q hq => ⟨by rw [x_up_off hq], by rw [x_up_ne (by decide)], by rw [x_up_ne (by decide)]⟩) (by rw [x_up_at]; rfl) (Or.inl rfl) (fun j h1 h2 => by omega) (Or.inl rfl)
theorem c_sput {o a b N ra rb rl k : Nat} {v w : Int32} {I : Nat → Nat → Int32} {L : Nat → Int64} {Q : Option Value → (Nat → Nat → Int32) → (Nat → Int64) → Prop} (ho : x_SH[o]? = some (0, 7)) (hr : x_RF (64 * o + 0) = some a) (hr2 : x_RF (64 * o + 1) = some b) (ha : x_SH[a]? = some (1, N)) (hb : x_SH[b]? = some (1, N)) (h1 : 64 * a = ra) (h2 : 64 * b = rb) (h3 : 64 * o + 2 = rl) (hne : rl ≠ ra) (hne2 : rl ≠ rb) (hk : I rl 0 = nI k) (hkN : k < N) (hN : N < 2 ^ 31)
    (K : Q none (x_up (x_up (x_up I ra k v) rb k w) rl 0 (nI (k + 1))) L) : XS mX7_put 0 [(0, .ref o), (1, .int v), (2, .int w)] [] I L Q := by
  subst h1; subst h2; subst h3
  refine bX7_put_0 ho hr ha (fun h => ?_) (fun _ => bX7_put_12 ho hr ha (i_vp k hk hkN hN) hr2 hb ?_ (bX7_put_42 ?_))
  · rw [hk] at h
    have := (i_le N k rfl rfl hN (by omega)).mp h
    omega
  · rw [x_up_ne hne, hk]; exact vp_in_nI hkN hN
  · rw [hk, nI_clamp (by omega), x_up_ne hne, hk, nI_clamp (by omega), x_up_ne hne2, x_up_ne hne, hk, nI_1]
    exact K
