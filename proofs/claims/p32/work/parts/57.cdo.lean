/-! ===== the class does a clause ===== -/
theorem c_startAnew {k : Nat} {I : Nat → Nat → Int32} {L : Nat → Int64} {Q : Option Value → (Nat → Nat → Int32) → (Nat → Int64) → Prop} (K : ∀ I', Sm [64, 65, 66, 448] I I' → I' 64 0 = nI k → I' 65 0 = nI 0 → I' 66 0 = nI 0 → (∀ j, j < 8 → I' 448 j = nI 0) → Q none I' L) : XS mX2_startAnew 0 [(0, .ref 1), (1, .int (nI k))] [] I L Q := by
  refine bX2_startAnew_0 (c_fill (N := 8) sh_7 (by decide) (fun I1 s1 h => bX2_startAnew_23 (K I1 ((((Sm.rf.up (by decide)).up (by decide)).up (by decide)).tr (s1.mono (by decide))) ?_ ?_ ?_ (fun j hj => h j hj))))
  · rw [s1 _ (by decide), x_up_ne (by decide), x_up_ne (by decide), x_up_at]
  · rw [s1 _ (by decide), x_up_ne (by decide), x_up_at]; rfl
  · rw [s1 _ (by decide), x_up_at]; rfl
theorem i_min {u v : Nat} (hu : u < 2 ^ 31) (hv : v < 2 ^ 31) : (if nI v < nI u then nI v else nI u) = nI (min u v) := by
  by_cases h : v < u
  · rw [if_pos ((nI_ltI hv hu).mpr h), Nat.min_eq_right (by omega)]
  · rw [if_neg (fun q => h ((nI_ltI hv hu).mp q)), Nat.min_eq_left (by omega)]
theorem i_max {u v : Nat} (hu : u < 2 ^ 31) (hv : v < 2 ^ 31) : (if nI u < nI v then nI v else nI u) = nI (max u v) := by
  by_cases h : u < v
  · rw [if_pos ((nI_ltI hu hv).mpr h), Nat.max_eq_right (by omega)]
  · rw [if_neg (fun q => h ((nI_ltI hu hv).mp q)), Nat.max_eq_left (by omega)]
theorem c_addLink {n ln U u v : Nat} {lo hi seen : Nat → Nat} {I : Nat → Nat → Int32} {L : Nat → Int64} {Q : Option Value → (Nat → Nat → Int32) → (Nat → Int64) → Prop} (hG : cG I n ln lo hi) (hn8 : n ≤ 8) (hln : ln < 14) (hU : I 66 0 = nI U) (hs : ∀ w, w < n → I 448 w = nI (seen w)) (hu : u < n) (hv : v < n)
    (K : ∀ I', Sm [128, 192, 66, 448, 65] I I' → (I' 128 ln = nI (min u v) ∧ I' 192 ln = nI (max u v)) → (∀ j, j ≠ ln → I' 128 j = I 128 j ∧ I' 192 j = I 192 j) → I' 66 0 = nI (U ||| 2 ^ ln) → (∀ w, w < n → I' 448 w = nI (seen w ||| 2 ^ ln)) → I' 65 0 = nI (ln + 1) → Q (some (.int (nI ln))) I' L) :
    XS mX2_addLink 0 [(0, .ref 1), (1, .int (nI u)), (2, .int (nI v))] [] I L Q := by
  have hl : I 65 0 = nI ln := hG.2.1
  have hU' : I 66 0 = nI U := hU
  refine bX2_addLink_0 (fun _ => bX2_addLink_11 (by rw [hl]; exact vp_in_nI hln (by decide)) (by rw [hl]; exact vp_in_nI hln (by decide)) ?_) (fun h => absurd (by rw [hl]; exact (i_lt ln 14 rfl rfl (by omega) (by decide)).mpr hln) h)
  rw [hl, nI_clamp (by omega), i_min (by omega) (by omega), i_max (by omega) (by omega), x_up_ne (by decide), x_up_ne (by decide), hU', i_1shl (by omega), i_or]
  have s1 : Sm [128, 192, 66, 448, 65] I (x_up (x_up (x_up I 128 ln (nI (min u v))) 192 ln (nI (max u v))) 66 0 (nI (U ||| 2 ^ ln))) := ((Sm.rf.up (by decide)).up (by decide)).up (by decide)
  have a1 : (x_up (x_up (x_up I 128 ln (nI (min u v))) 192 ln (nI (max u v))) 66 0 (nI (U ||| 2 ^ ln))) 128 ln = nI (min u v) := by rw [x_up_ne (by decide), x_up_ne (by decide), x_up_at]
  have a2 : (x_up (x_up (x_up I 128 ln (nI (min u v))) 192 ln (nI (max u v))) 66 0 (nI (U ||| 2 ^ ln))) 192 ln = nI (max u v) := by rw [x_up_ne (by decide), x_up_at]
  have a3 : ∀ j, j ≠ ln → (x_up (x_up (x_up I 128 ln (nI (min u v))) 192 ln (nI (max u v))) 66 0 (nI (U ||| 2 ^ ln))) 128 j = I 128 j ∧ (x_up (x_up (x_up I 128 ln (nI (min u v))) 192 ln (nI (max u v))) 66 0 (nI (U ||| 2 ^ ln))) 192 j = I 192 j := fun j hj => ⟨by rw [x_up_ne (by decide), x_up_ne (by decide), x_up_off hj], by rw [x_up_ne (by decide), x_up_off hj, x_up_ne (by decide)]⟩
  have a4 : (x_up (x_up (x_up I 128 ln (nI (min u v))) 192 ln (nI (max u v))) 66 0 (nI (U ||| 2 ^ ln))) 66 0 = nI (U ||| 2 ^ ln) := x_up_at
  have a5 : (x_up (x_up (x_up I 128 ln (nI (min u v))) 192 ln (nI (max u v))) 66 0 (nI (U ||| 2 ^ ln))) 448 = I 448 := by rw [x_up_ne (by decide), x_up_ne (by decide), x_up_ne (by decide)]
  have a6 : (x_up (x_up (x_up I 128 ln (nI (min u v))) 192 ln (nI (max u v))) 66 0 (nI (U ||| 2 ^ ln))) 65 0 = nI ln := by rw [x_up_ne (by decide), x_up_ne (by decide), x_up_ne (by decide)]; exact hl
  generalize (x_up (x_up (x_up I 128 ln (nI (min u v))) 192 ln (nI (max u v))) 66 0 (nI (U ||| 2 ^ ln))) = I1 at s1 a1 a2 a3 a4 a5 a6 ⊢
  have key : ∀ k w I2, w + k = n → Sm [448] I1 I2 → (∀ x, x < w → I2 448 x = nI (seen x ||| 2 ^ ln)) → (∀ x, w ≤ x → x < n → I2 448 x = nI (seen x)) → XS mX2_addLink 53 [(0, .ref 1), (3, .int (nI ln)), (4, .int (nI w))] [] I2 L Q := by
    intro k
    induction k with
    | zero =>
      intro w I2 hw s2 h1 h2
      refine bX2_addLink_53 (fun _ => bX2_addLink_81 ?_) (fun h => ?_)
      · rw [s2 65 (by decide), a6, nI_1]
        refine K _ ((s1.tr (s2.mono (by decide))).up (by decide)) ⟨?_, ?_⟩ (fun j hj => ⟨?_, ?_⟩) ?_ (fun x hx => ?_) (by rw [x_up_at])
        · rw [x_up_ne (by decide), s2 _ (by decide)]; exact a1
        · rw [x_up_ne (by decide), s2 _ (by decide)]; exact a2
        · rw [x_up_ne (by decide), s2 _ (by decide)]; exact (a3 j hj).1
        · rw [x_up_ne (by decide), s2 _ (by decide)]; exact (a3 j hj).2
        · rw [x_up_ne (by decide), s2 _ (by decide)]; exact a4
        · rw [x_up_ne (by decide)]; exact h1 x (by omega)
      · rw [s2 64 (by decide), s1 64 (by decide), show I 64 0 = nI n from hG.1, nI_leI (by omega) (by omega)] at h; omega
    | succ k ih =>
      intro w I2 hw s2 h1 h2
      refine bX2_addLink_53 (fun h => ?_) (fun _ => bX2_addLink_62 (vp_in_nI (by omega) (by decide)) (vp_in_nI (by omega) (by decide)) ?_)
      · rw [s2 64 (by decide), s1 64 (by decide), show I 64 0 = nI n from hG.1, nI_leI (by omega) (by omega)] at h; omega
      · rw [nI_clamp (by omega), show I2 448 w = nI (seen w) from h2 w (Nat.le_refl _) (by omega), i_1shl (by omega), i_or, nI_1]
        refine ih (w + 1) _ (by omega) (s2.up (by decide)) (fun x hx => ?_) (fun x hx hxn => ?_)
        · by_cases hxw : x = w
          · subst hxw; rw [x_up_at]
          · rw [x_up_off hxw]; exact h1 x (by omega)
        · rw [x_up_off (by omega)]; exact h2 x (by omega) hxn
  exact key n 0 I1 (by omega) Sm.rf (fun x hx => by omega) (fun x _ hx => by rw [a5]; exact hs x hx)
theorem c_putLink {σ : g_St} {u v c d : Nat} {I : Nat → Nat → Int32} {L : Nat → Int64} {Q : Option Value → (Nat → Nat → Int32) → (Nat → Int64) → Prop} (hS : cSt I σ) (hok : g_okS σ) (hc : g_clok σ.1 (.inr (u, v, c, d))) (hE : (g_nxE (g_El σ.2.1 σ.2.2.1 σ.2.2.2.1) (.inr (u, v, c, d))).length ≤ 14)
    (K : ∀ I', Sm [128, 192, 66, 448, 65, 256, 320] I I' → cSt I' (g_ap σ (.inr (u, v, c, d))) → Q none I' L) :
    XS mX2_putLink 0 [(0, .ref 1), (1, .int (nI u)), (2, .int (nI v)), (3, .int (nI c)), (4, .int (nI d))] [] I L Q := by
  obtain ⟨n, ln, lo, hi, c0, c1, U, seen⟩ := σ
  obtain ⟨hN, h0, h1, hU, hs⟩ := hok
  obtain ⟨g1, g2, g3, g4, g5⟩ := hS
  obtain ⟨k1, k2, k3, k4, k5, k6, k7⟩ : u < n ∧ v < n ∧ u ≠ v ∧ 1 ≤ c ∧ c ≤ 9 ∧ 1 ≤ d ∧ d ≤ 9 := hc
  have hn8 := hN.2.1
  have hln := hN.2.2.1
  refine bX2_putLink_0 (c_linkBetween g1 hN (by omega) (by omega) ?_)
  cases hl : g_lk ln lo hi u v with
  | some l =>
    have hll := (g_lk_lt hN hl).1
    have e : g_ap (n, ln, lo, hi, c0, c1, U, seen) (.inr (u, v, c, d)) = (n, ln, lo, hi, g_set c0 l c, g_set c1 l d, U, seen) := by
      unfold g_ap; dsimp only; rw [hl]
    rw [e] at K
    refine bX2_putLink_6 (fun _ => bX2_putLink_22 (fun h => absurd h (i_m1ne (by omega))) (fun _ => bX2_putLink_28 (vp_in_nI (by omega) (by decide)) (vp_in_nI (by omega) (by decide)) (bX2_putLink_45 ?_))) (fun h => absurd h (i_m1ne (by omega)))
    show Q none (x_up (x_up I 256 (nI l).toNatClampNeg (nI c)) 320 (nI l).toNatClampNeg (nI d)) L
    rw [nI_clamp (by omega)]
    have s2 : Sm [256, 320] I (x_up (x_up I 256 l (nI c)) 320 l (nI d)) := (Sm.rf.up (by decide)).up (by decide)
    refine K _ (s2.mono (by decide)) ⟨g1.sm s2 (by decide) (by decide) (by decide) (by decide), fun j hj => ?_, fun j hj => ?_, by rw [s2 _ (by decide)]; exact g4, fun w hw => by rw [s2 _ (by decide)]; exact g5 w hw⟩
    · show (x_up (x_up I 256 l (nI c)) 320 l (nI d)) 256 j = nI (g_set c0 l c j)
      rw [x_up_ne (by decide)]
      by_cases hjl : j = l
      · subst hjl; rw [x_up_at, g_set_at]
      · rw [x_up_off hjl, g_set_off hjl]; exact g2 j hj
    · show (x_up (x_up I 256 l (nI c)) 320 l (nI d)) 320 j = nI (g_set c1 l d j)
      by_cases hjl : j = l
      · subst hjl; rw [x_up_at, g_set_at]
      · rw [x_up_off hjl, g_set_off hjl, x_up_ne (by decide)]; exact g3 j hj
  | none =>
    have e : g_ap (n, ln, lo, hi, c0, c1, U, seen) (.inr (u, v, c, d)) = (n, ln + 1, g_set lo ln (min u v), g_set hi ln (max u v), g_set c0 ln c, g_set c1 ln d, U ||| 2 ^ ln, fun w => seen w ||| 2 ^ ln) := by
      unfold g_ap; dsimp only; rw [hl]
    rw [e] at K
    have hm := (g_lk_El hN k3).mp hl
    have hlen : ln + 1 ≤ 14 := by
      have hE' : (g_ad (g_El ln lo hi) (g_pr u v)).length ≤ 14 := hE
      unfold g_ad at hE'
      rw [if_neg hm] at hE'
      simpa [g_El_len] using hE'
    refine bX2_putLink_6 (fun h => absurd rfl h) (fun _ => bX2_putLink_14 (c_addLink g1 hn8 (by omega) g4 g5 k1 k2 (fun I1 s1 b1 b2 b3 b4 b5 => bX2_putLink_20 (bX2_putLink_22 (fun h => absurd h (i_m1ne (by omega))) (fun _ => bX2_putLink_28 (vp_in_nI (by omega) (by decide)) (vp_in_nI (by omega) (by decide)) (bX2_putLink_45 ?_))))))
    show Q none (x_up (x_up I1 256 (nI ln).toNatClampNeg (nI c)) 320 (nI ln).toNatClampNeg (nI d)) L
    rw [nI_clamp (by omega)]
    have s2 : Sm [256, 320] I1 (x_up (x_up I1 256 ln (nI c)) 320 ln (nI d)) := (Sm.rf.up (by decide)).up (by decide)
    refine K _ ((s1.mono (by decide)).tr (s2.mono (by decide))) ⟨⟨by rw [s2 _ (by decide), s1 _ (by decide)]; exact g1.1, by rw [s2 _ (by decide)]; exact b5, fun j hj => ?_⟩, fun j hj => ?_, fun j hj => ?_, by rw [s2 _ (by decide)]; exact b3, fun w hw => by rw [s2 _ (by decide)]; exact b4 w hw⟩
    · rw [s2 _ (by decide), s2 _ (by decide)]
      by_cases hjl : j = ln
      · subst hjl; rw [g_set_at, g_set_at]; exact b1
      · rw [g_set_off hjl, g_set_off hjl, (b2 j hjl).1, (b2 j hjl).2]; exact g1.2.2 j (by omega)
    · show (x_up (x_up I1 256 ln (nI c)) 320 ln (nI d)) 256 j = nI (g_set c0 ln c j)
      rw [x_up_ne (by decide)]
      by_cases hjl : j = ln
      · subst hjl; rw [x_up_at, g_set_at]
      · rw [x_up_off hjl, g_set_off hjl, s1 _ (by decide)]; exact g2 j (by omega)
    · show (x_up (x_up I1 256 ln (nI c)) 320 ln (nI d)) 320 j = nI (g_set c1 ln d j)
      by_cases hjl : j = ln
      · subst hjl; rw [x_up_at, g_set_at]
      · rw [x_up_off hjl, g_set_off hjl, x_up_ne (by decide), s1 _ (by decide)]; exact g3 j (by omega)
