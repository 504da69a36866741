/-! ===== the class finds the fault ===== -/
theorem c_readClause {T : Nat → Nat} {len i t N : Nat} {E : List (Nat × Nat)} {I : Nat → Nat → Int32} {L : Nat → Int64} {Q : Option Value → (Nat → Nat → Int32) → (Nat → Int64) → Prop} (hT : cT I T len) (hi : i ≤ len) (he : I 518 0 = nI i) (ht : t < 24) (hN : I 519 0 = nI N) (hN2 : 2 ≤ N) (hN8 : N ≤ 8) (hP : cPr L E) (hE : E.length ≤ 14)
    (K0 : ∀ I' p, Sm [517, 518, 519, 640] I I' → g_cl T len N E i = .inl p → I' 517 0 = nI p → (∀ j, j / 4 ≠ t → I' 640 j = I 640 j) → Q (some (.int 0)) I' L)
    (K1 : ∀ I' L' cl e, Sm [517, 518, 519, 640] I I' → g_cl T len N E i = .inr (cl, e) → e ≤ len → cRd I I' L' t N E cl e → Q (some (.int 1)) I' L') :
    XS mX8_readClause 0 [(0, .ref 8), (1, .int (nI t))] [] I L Q := by
  have z0 := g_PZ (T := T) hi
  refine bX8_readClause_0 (c_readToken hT hi he (fun I1 s1 hk1 => bX8_readClause_4 ?_))
  have hT1 : cT I1 T len := hT.sm s1 (by decide) (by decide)
  have hN1 : I1 519 0 = nI N := by rw [s1 _ (by decide)]; exact hN
  have mk : ∀ {I2 : Nat → Nat → Int32} {L2 : Nat → Int64} {cl : g_Cl} {e : Nat}, cRd I1 I2 L2 t N E cl e → cRd I I2 L2 t N E cl e := fun h => by
    obtain ⟨a, b, c, d, f, g⟩ := h
    exact ⟨a, b, c, d, fun j hj => by rw [f j hj, s1 _ (by decide)], g⟩
  refine c_isWord (i := 0) (by decide) hT1 z0.2.2.1 z0.2.2.2 hk1 ?_
  cases h0 : g_isw T (g_P T len i) (g_Z T len i) 0 with
  | true =>
    have e0 : g_cl T len N E i = g_cln T len (g_Z T len i) := by
      unfold g_cl; rw [if_pos (show g_isw T (g_P T len i) (g_Z T len i) 0 = true from h0)]
    refine bX8_readClause_10 (fun h => absurd h (by decide)) (fun _ => bX8_readClause_13 (c_readNodes (N := N) (E := E) hT1 z0.2.2.2 hk1.2 ht (fun I2 p s2 a b c => bX8_readClause_18 (Or.inl rfl) (K0 I2 p ((s1.mono (by decide)).tr s2) (by rw [e0]; exact a) b (fun j hj => by rw [c j hj, s1 _ (by decide)]))) (fun I2 L2 cl e s2 a b c => bX8_readClause_18 (Or.inr rfl) (K1 I2 L2 cl e ((s1.mono (by decide)).tr s2) (by rw [e0]; exact a) b (mk c)))))
  | false =>
    refine bX8_readClause_10 (fun _ => bX8_readClause_19 (c_isWord (i := 1) (by decide) hT1 z0.2.2.1 z0.2.2.2 hk1 ?_)) (fun h => absurd rfl h)
    cases h1 : g_isw T (g_P T len i) (g_Z T len i) 1 with
    | true =>
      have e1 : g_cl T len N E i = g_cll T len N E (g_Z T len i) := by
        unfold g_cl; rw [if_neg (by rw [show g_isw T (g_P T len i) (g_Z T len i) 0 = false from h0]; simp), if_pos (show g_isw T (g_P T len i) (g_Z T len i) 1 = true from h1)]
      refine bX8_readClause_25 (fun h => absurd h (by decide)) (fun _ => bX8_readClause_28 (c_readLink hT1 z0.2.2.2 hk1.2 ht hN1 hN2 hN8 hP hE (fun I2 p s2 a b c => bX8_readClause_33 (fun _ => bX8_readClause_40 (bX8_readClause_41 (Or.inl rfl) (K0 I2 p ((s1.mono (by decide)).tr s2) (by rw [e1]; exact a) b (fun j hj => by rw [c j hj, s1 _ (by decide)])))) (fun h => absurd rfl h)) (fun I2 L2 cl e s2 a b c => bX8_readClause_33 (fun h => absurd h (by decide)) (fun _ => bX8_readClause_36 (bX8_readClause_41 (Or.inr rfl) (K1 I2 L2 cl e ((s1.mono (by decide)).tr s2) (by rw [e1]; exact a) b (mk c)))))))
    | false =>
      have e2 : g_cl T len N E i = .inl (g_P T len i) := by
        unfold g_cl; rw [if_neg (by rw [show g_isw T (g_P T len i) (g_Z T len i) 0 = false from h0]; simp), if_neg (by rw [show g_isw T (g_P T len i) (g_Z T len i) 1 = false from h1]; simp)]
      exact bX8_readClause_25 (fun _ => bX8_readClause_40 (bX8_readClause_41 (Or.inl rfl) (K0 I1 (g_P T len i) (s1.mono (by decide)) e2 hk1.1 (fun j _ => by rw [s1 _ (by decide)])))) (fun h => absurd rfl h)
def g_El (ln : Nat) (lo hi : Nat → Nat) : List (Nat × Nat) := (List.range ln).map (fun l => (lo l, hi l))
theorem g_El_succ (ln : Nat) (lo hi : Nat → Nat) : g_El (ln + 1) lo hi = g_El ln lo hi ++ [(lo ln, hi ln)] := by
  unfold g_El
  rw [List.range_succ, List.map_append]
  rfl
theorem g_El_len (ln : Nat) (lo hi : Nat → Nat) : (g_El ln lo hi).length = ln := by simp [g_El]
theorem g_El_mem {ln : Nat} {lo hi : Nat → Nat} {p : Nat × Nat} : p ∈ g_El ln lo hi ↔ ∃ l, l < ln ∧ p = (lo l, hi l) := by
  unfold g_El
  rw [List.mem_map]
  constructor
  · rintro ⟨l, h, e⟩
    exact ⟨l, List.mem_range.mp h, e.symm⟩
  · rintro ⟨l, h, e⟩
    exact ⟨l, List.mem_range.mpr h, e.symm⟩
theorem c_pairsWithLinks {n ln : Nat} {lo hi : Nat → Nat} {I : Nat → Nat → Int32} {L : Nat → Int64} {Q : Option Value → (Nat → Nat → Int32) → (Nat → Int64) → Prop} (hG : cG I n ln lo hi) (hN : g_net n ln lo hi) (K : ∀ x, g_prs x (g_El ln lo hi) → Q (some (.long (nJ x))) I L) : XS mX2_pairsWithLinks 0 [(0, .ref 1)] [] I L Q := by
  have hn8 := hN.2.1
  have hln := hN.2.2.1
  have hl0 : I 65 0 = nI ln := hG.2.1
  have key : ∀ k l x, l + k = ln → g_prs x (g_El l lo hi) → XS mX2_pairsWithLinks 4 [(0, .ref 1), (1, .long (nJ x)), (3, .int (nI l))] [] I L Q := by
    intro k
    induction k with
    | zero =>
      intro l x hl hx
      have : l = ln := by omega
      subst this
      exact bX2_pairsWithLinks_4 (fun _ => bX2_pairsWithLinks_36 (K x hx)) (fun h => absurd (by rw [hl0]; exact (nI_leI (by omega) (by omega)).mpr (Nat.le_refl _)) h)
    | succ k ih =>
      intro l x hl hx
      have hb := hN.2.2.2.1 l (by omega)
      have g1 : I 128 l = nI (lo l) := (hG.2.2 l (by omega)).1
      have g2 : I 192 l = nI (hi l) := (hG.2.2 l (by omega)).2
      refine bX2_pairsWithLinks_4 (fun h => ?_) (fun _ => bX2_pairsWithLinks_12 (vp_in_nI (by omega) (by decide)) (vp_in_nI (by omega) (by decide)) ?_)
      · rw [hl0, nI_leI (by omega) (by omega)] at h; omega
      · rw [nI_clamp (by omega), g1, g2]
        refine c_pairOf (by omega) (by omega) (bX2_pairsWithLinks_28 ?_)
        rw [nI_1, j_or]
        refine ih (l + 1) _ (by omega) ?_
        have hpr : g_pr (lo l) (hi l) = (lo l, hi l) := by
          show (min (lo l) (hi l), max (lo l) (hi l)) = (lo l, hi l)
          rw [Nat.min_eq_left (by omega), Nat.max_eq_right (by omega)]
        rw [hpr, g_El_succ]
        have := g_prs_ad (a := lo l) (b := hi l) (by omega) (by omega) hx
        unfold g_ad at this
        rw [if_neg] at this
        · exact this
        · intro q
          obtain ⟨l', h1, h2⟩ := g_El_mem.mp q
          rw [Prod.mk.injEq] at h2
          have := hN.2.2.2.2 l l' (by omega) (by omega) h2.1 h2.2
          omega
  exact bX2_pairsWithLinks_0 (key ln 0 0 (by omega) (by unfold g_El; exact g_prs_0))
def cNs (I : Nat → Nat → Int32) : Nat → List g_Cl → Prop
  | _, [] => True
  | t, cl :: C => cNum I t cl ∧ cNs I (t + 1) C
def g_cks : Nat → List (Nat × Nat) → List g_Cl → Prop
  | _, _, [] => True
  | N, E, cl :: C => g_clok N cl ∧ (g_nxE E cl).length ≤ 14 ∧ g_cks (g_nxN N cl) (g_nxE E cl) C
theorem cNum_sm {I I' : Nat → Nat → Int32} {t : Nat} {cl : g_Cl} (h : cNum I t cl) (hs : ∀ j, j / 4 = t → I' 640 j = I 640 j) : cNum I' t cl := by
  cases cl with
  | inl k =>
    obtain ⟨a, b⟩ := h
    exact ⟨by rw [hs _ (by omega)]; exact a, by rw [hs _ (by omega)]; exact b⟩
  | inr q =>
    obtain ⟨u, v, c, d⟩ := q
    obtain ⟨a, b, e, f⟩ := h
    exact ⟨by rw [hs _ (by omega)]; exact a, by rw [hs _ (by omega)]; exact b, by rw [hs _ (by omega)]; exact e, by rw [hs _ (by omega)]; exact f⟩
theorem g_Z_sign {T : Nat → Nat} {len i : Nat} (h : g_P T len i < len) (h2 : T (g_P T len i) = 59) : g_Z T len i = g_P T len i + 1 := by
  have h' : g_skip T len i < len := h
  have h2' : T (g_skip T len i) = 59 := h2
  show g_tend T len (g_skip T len i) = g_skip T len i + 1
  unfold g_tend
  rw [if_neg (by omega), h2', if_pos (by decide)]
theorem c_findFault {n ln len : Nat} {lo hi T : Nat → Nat} {I : Nat → Nat → Int32} {L : Nat → Int64} {Q : Option Value → (Nat → Nat → Int32) → (Nat → Int64) → Prop} (hG : cG I n ln lo hi) (hN : g_net n ln lo hi) (hT : cT I T len)
    (K : ∀ I' L', Sm [517, 518, 519, 640, 515] I I' → ((g_ps T len 24 n (g_El ln lo hi) 0).1 = none → I' 515 0 = nI (g_ps T len 24 n (g_El ln lo hi) 0).2.length ∧ (g_ps T len 24 n (g_El ln lo hi) 0).2.length ≤ 24 ∧ cNs I' 0 (g_ps T len 24 n (g_El ln lo hi) 0).2 ∧ g_cks n (g_El ln lo hi) (g_ps T len 24 n (g_El ln lo hi) 0).2) → Q (some (.int (i_o (g_ps T len 24 n (g_El ln lo hi) 0).1))) I' L') :
    XS mX8_findFault 0 [(0, .ref 8)] [] I L Q := by
  have hn8 := hN.2.1
  have hl := hT.2.1
  have key : ∀ k t N E i I1 L1, t + (k + 1) = 24 → Sm [517, 518, 519, 640, 515] I I1 → i ≤ len → I1 518 0 = nI i → I1 519 0 = nI N → 2 ≤ N → N ≤ 8 → cPr L1 E → E.length ≤ 14 → (∀ I' L', Sm [517, 518, 519, 640, 515] I I' → (∀ j, j / 4 < t → I' 640 j = I1 640 j) → ((g_ps T len (k + 1) N E i).1 = none → I' 515 0 = nI (t + (g_ps T len (k + 1) N E i).2.length) ∧ t + (g_ps T len (k + 1) N E i).2.length ≤ 24 ∧ cNs I' t (g_ps T len (k + 1) N E i).2 ∧ g_cks N E (g_ps T len (k + 1) N E i).2) → Q (some (.int (i_o (g_ps T len (k + 1) N E i).1))) I' L') → XS mX8_findFault 53 [(0, .ref 8), (1, .int (nI t))] [] I1 L1 Q := by
    intro k
    induction k with
    | zero =>
      intro t N E i I1 L1 ht hs hi he hNd hN2 hN8 hP hE KK
      have hT1 : cT I1 T len := hT.sm hs (by decide) (by decide)
      refine bX8_findFault_53 (c_readClause hT1 hi he (by omega) hNd hN2 hN8 hP hE (fun I2 p s2 a b c => bX8_findFault_58 (fun h => absurd rfl h) (fun _ => bX8_findFault_61 ?_)) (fun I2 L2 cl e s2 a b c => bX8_findFault_58 (fun _ => bX8_findFault_66 ?_) (fun h => absurd h (by decide))))
      · have hps : g_ps T len (0 + 1) N E i = (some p, []) := by
          unfold g_ps; rw [a]
        have := KK I2 L1 (hs.tr (s2.mono (by decide))) (fun j hj => c j (by omega)) (fun h => by rw [hps] at h; cases h)
        rw [hps] at this
        rw [show I2 517 0 = nI p from b]
        exact this
      · obtain ⟨c1, c2, c3, c4, c5, c6, c7⟩ := c
        have e1 : (x_up I2 515 0 (nI t + 1)) 518 0 = nI e := by rw [x_up_ne (by decide)]; exact c1
        rw [e1, nI_1]
        have s3 : Sm [517, 518, 519, 640, 515] I (x_up I2 515 0 (nI (t + 1))) := (hs.tr (s2.mono (by decide))).up (by decide)
        have hT3 : cT (x_up I2 515 0 (nI (t + 1))) T len := hT.sm s3 (by decide) (by decide)
        have z := g_PZ (T := T) b
        refine c_skipBlanks hT3 b (bX8_findFault_81 (fun h => bX8_findFault_90 ?_) (fun h => bX8_findFault_88 ?_))
        · rw [show (x_up I2 515 0 (nI (t + 1))) 514 0 = nI len from hT3.1, nI_ltI (a := g_skip T len e) (by have : g_skip T len e ≤ len := z.2.1; omega) (by omega)] at h
          have h' : g_P T len e < len := h
          rw [nI_1]
          refine bX8_findFault_34 (fun _ => bX8_findFault_96 (c_readToken hT3 b (by rw [x_up_ne (by decide)]; exact c1) (fun I4 s4 hk4 => bX8_findFault_100 ?_))) (fun h2 => absurd ((i_le 24 (t + 1) rfl rfl (by decide) (by omega)).mpr (by omega)) h2)
          have hps : g_ps T len (0 + 1) N E i = (some (g_P T len e), [cl]) := by
            unfold g_ps; rw [a]; dsimp only; rw [if_neg (by omega), if_neg (by simp)]
          have := KK I4 L2 (s3.tr (s4.mono (by decide))) (fun j hj => by rw [s4 _ (by decide), x_up_ne (by decide)]; exact c5 j (by omega)) (fun h => by rw [hps] at h; cases h)
          rw [hps] at this
          rw [show I4 517 0 = nI (g_skip T len e) from hk4.1]
          exact this
        · rw [show (x_up I2 515 0 (nI (t + 1))) 514 0 = nI len from hT3.1, nI_ltI (a := g_skip T len e) (by have : g_skip T len e ≤ len := z.2.1; omega) (by omega)] at h
          have h' : ¬ g_P T len e < len := h
          have hps : g_ps T len (0 + 1) N E i = (none, [cl]) := by
            unfold g_ps; rw [a]; dsimp only; rw [if_pos (by omega)]
          have := KK (x_up I2 515 0 (nI (t + 1))) L2 s3 (fun j hj => by rw [x_up_ne (by decide)]; exact c5 j (by omega)) (fun _ => by
            rw [hps]
            exact ⟨by rw [x_up_at]; rfl, by simp; omega, ⟨cNum_sm c4 (fun j _ => by rw [x_up_ne (by decide)]), trivial⟩, c6, c7, trivial⟩)
          rw [hps] at this
          exact this
    | succ k ih =>
      intro t N E i I1 L1 ht hs hi he hNd hN2 hN8 hP hE KK
      have hT1 : cT I1 T len := hT.sm hs (by decide) (by decide)
      refine bX8_findFault_53 (c_readClause hT1 hi he (by omega) hNd hN2 hN8 hP hE (fun I2 p s2 a b c => bX8_findFault_58 (fun h => absurd rfl h) (fun _ => bX8_findFault_61 ?_)) (fun I2 L2 cl e s2 a b c => bX8_findFault_58 (fun _ => bX8_findFault_66 ?_) (fun h => absurd h (by decide))))
      · have hps : g_ps T len (k + 1 + 1) N E i = (some p, []) := by
          unfold g_ps; rw [a]
        have := KK I2 L1 (hs.tr (s2.mono (by decide))) (fun j hj => c j (by omega)) (fun h => by rw [hps] at h; cases h)
        rw [hps] at this
        rw [show I2 517 0 = nI p from b]
        exact this
      · obtain ⟨c1, c2, c3, c4, c5, c6, c7⟩ := c
        have e1 : (x_up I2 515 0 (nI t + 1)) 518 0 = nI e := by rw [x_up_ne (by decide)]; exact c1
        rw [e1, nI_1]
        have s3 : Sm [517, 518, 519, 640, 515] I (x_up I2 515 0 (nI (t + 1))) := (hs.tr (s2.mono (by decide))).up (by decide)
        have hT3 : cT (x_up I2 515 0 (nI (t + 1))) T len := hT.sm s3 (by decide) (by decide)
        have z := g_PZ (T := T) b
        refine c_skipBlanks hT3 b (bX8_findFault_81 (fun h => bX8_findFault_90 ?_) (fun h => bX8_findFault_88 ?_))
        · rw [show (x_up I2 515 0 (nI (t + 1))) 514 0 = nI len from hT3.1, nI_ltI (a := g_skip T len e) (by have : g_skip T len e ≤ len := z.2.1; omega) (by omega)] at h
          have h' : g_P T len e < len := h
          rw [nI_1]
          refine bX8_findFault_34 (fun h2 => ?_) (fun _ => bX8_findFault_40 (fun h2 => ?_) (fun _ => bX8_findFault_44 (c_readSign (s := 59) hT3 b (by rw [x_up_ne (by decide)]; exact c1) (by decide) (fun I4 bb s4 hk4 hbb => ?_))))
          · have := (i_le 24 (t + 1) rfl rfl (by decide) (by omega)).mp h2; omega
          · have := (i_le (t + 1) 0 rfl rfl (by omega) (by decide)).mp h2; omega
          have s4' := s3.tr (s4.mono (by decide))
          cases bb with
          | false =>
            have hne : ¬ T (g_P T len e) = 59 := fun q => by
              have := hbb.mpr ⟨g_Z_sign h' q, q⟩
              cases this
            have hps : g_ps T len (k + 1 + 1) N E i = (some (g_P T len e), [cl]) := by
              rw [show g_ps T len (k + 1 + 1) N E i = _ from by unfold g_ps; rw [a]]
              dsimp only
              rw [if_neg (by omega), if_neg (fun q => hne q.1)]
            refine bX8_findFault_50 (fun _ => bX8_findFault_61 ?_) (fun h => absurd rfl h)
            have := KK I4 L2 s4' (fun j hj => by rw [s4 _ (by decide), x_up_ne (by decide)]; exact c5 j (by omega)) (fun h => by rw [hps] at h; cases h)
            rw [hps] at this
            rw [show I4 517 0 = nI (g_skip T len e) from hk4.1]
            exact this
          | true =>
            have hq := (hbb.mp rfl).2
            have hz := g_Z_sign h' hq
            have hps : g_ps T len (k + 1 + 1) N E i = ((g_ps T len (k + 1) (g_nxN N cl) (g_nxE E cl) (g_P T len e + 1)).1, cl :: (g_ps T len (k + 1) (g_nxN N cl) (g_nxE E cl) (g_P T len e + 1)).2) := by
              rw [show g_ps T len (k + 1 + 1) N E i = _ from by unfold g_ps; rw [a]]
              dsimp only
              rw [if_neg (by omega), if_pos ⟨hq, by omega⟩]
            refine bX8_findFault_50 (fun h => absurd h (by decide)) (fun _ => ?_)
            have hNb : 2 ≤ g_nxN N cl ∧ g_nxN N cl ≤ 8 := by
              cases cl with
              | inl k => exact c6
              | inr q => exact ⟨hN2, hN8⟩
            refine ih (t + 1) (g_nxN N cl) (g_nxE E cl) (g_P T len e + 1) I4 L2 (by omega) s4' (by omega) ?_ ?_ hNb.1 hNb.2 c3 c7 (fun I5 L5 s5 n5 h5 => ?_)
            · rw [← hz]; exact hk4.2
            · rw [s4 _ (by decide), x_up_ne (by decide)]; exact c2
            · have nums : ∀ j, j / 4 ≤ t → I5 640 j = I2 640 j := fun j hj => by
                rw [n5 j (by omega), s4 _ (by decide), x_up_ne (by decide)]
              have := KK I5 L5 s5 (fun j hj => by rw [nums j (by omega)]; exact c5 j (by omega)) (fun h => by
                rw [hps] at h ⊢
                obtain ⟨d1, d2, d3, d4⟩ := h5 h
                refine ⟨?_, ?_, ⟨cNum_sm c4 (fun j hj => nums j (by omega)), d3⟩, c6, c7, d4⟩
                · rw [d1]; simp only [List.length_cons]; congr 1; omega
                · simp only [List.length_cons]; omega)
              rw [hps] at this
              exact this
        · rw [show (x_up I2 515 0 (nI (t + 1))) 514 0 = nI len from hT3.1, nI_ltI (a := g_skip T len e) (by have : g_skip T len e ≤ len := z.2.1; omega) (by omega)] at h
          have h' : ¬ g_P T len e < len := h
          have hps : g_ps T len (k + 1 + 1) N E i = (none, [cl]) := by
            rw [show g_ps T len (k + 1 + 1) N E i = _ from by unfold g_ps; rw [a]]
            dsimp only
            rw [if_pos (by omega)]
          have := KK (x_up I2 515 0 (nI (t + 1))) L2 s3 (fun j hj => by rw [x_up_ne (by decide)]; exact c5 j (by omega)) (fun _ => by
            rw [hps]
            exact ⟨by rw [x_up_at]; rfl, by simp; omega, ⟨cNum_sm c4 (fun j _ => by rw [x_up_ne (by decide)]), trivial⟩, c6, c7, trivial⟩)
          rw [hps] at this
          exact this
  have hn0 : I 64 0 = nI n := hG.1
  refine bX8_findFault_0 ?_
  rw [hn0]
  have s1 : Sm [517, 518, 519, 640, 515] I (x_up I 519 0 (nI n)) := Sm.rf.up (by decide)
  refine c_pairsWithLinks (hG.sm s1 (by decide) (by decide) (by decide) (by decide)) hN (fun x hx => bX8_findFault_19 (bX8_findFault_34 (fun h => absurd h (by decide)) (fun _ => bX8_findFault_40 (fun _ => ?_) (fun h => absurd (by decide) h))))
  refine key 23 0 n (g_El ln lo hi) 0 _ _ (by omega) ((s1.up (by decide)).up (by decide)) (by omega) (by rw [x_up_ne (by decide), x_up_at]; rfl) (by rw [x_up_ne (by decide), x_up_ne (by decide), x_up_at]) hN.1 hn8 ⟨x, x_upL_at, hx⟩ (by rw [g_El_len]; exact hN.2.2.1) (fun I5 L5 s5 n5 h5 => K I5 L5 s5 (fun h => ?_))
  obtain ⟨d1, d2, d3, d4⟩ := h5 h
  rw [Nat.zero_add] at d1 d2
  exact ⟨d1, d2, d3, d4⟩
