/-! ===== the class carries a letter ===== -/
def cL (I : Nat → Nat → Int32) (P : List Nat) (X : Nat → Int32) (mm : Bool) (M0 : Int32) : Prop := I 3009 0 = nI P.length ∧ g_rp 3072 I P ∧ (∀ l, l < 14 → I 384 l = X l) ∧ I 2762 0 = i_b mm ∧ I 2760 0 = M0 + i_b mm
theorem cL.sm {I I' : Nat → Nat → Int32} {P : List Nat} {X : Nat → Int32} {mm : Bool} {M0 : Int32} {T : List Nat} (h : cL I P X mm M0) (hs : Sm T I I') (h1 : ∀ r, r ∈ [3009, 3072, 384, 2762, 2760] → r ∉ T) : cL I' P X mm M0 := by
  obtain ⟨a, b, c, d, e⟩ := h
  refine ⟨by rw [hs _ (h1 _ (by decide))]; exact a, g_rp_sm b (fun i _ => by rw [hs _ (h1 _ (by decide))]), fun l hl => by rw [hs _ (h1 _ (by decide))]; exact c l hl, by rw [hs _ (h1 _ (by decide))]; exact d, by rw [hs _ (h1 _ (by decide))]; exact e⟩
theorem g_oe_ot {lo hi : Nat → Nat} {l u : Nat} (h : lo l = u ∨ hi l = u) : g_oe lo hi l u = some (g_ot lo hi l u) := by
  unfold g_oe g_ot
  by_cases h1 : lo l = u
  · rw [if_pos h1, if_pos h1]
  · rw [if_neg h1, if_neg h1, if_pos (by omega)]
theorem g_ot_lt {n ln l u : Nat} {lo hi : Nat → Nat} (hN : g_net n ln lo hi) (hl : l < ln) : g_ot lo hi l u < n := by
  have := hN.2.2.2.1 l hl
  unfold g_ot
  split <;> omega
theorem g_if_len {kk w : Nat} {S1 : List (Nat × Nat)} : (if kk = 2 then S1 else (kk, w) :: S1).length ≤ S1.length + 1 := by
  split
  · omega
  · exact Nat.le_refl _
theorem c_crossLink {n ln l u kk w : Nat} {lo hi : Nat → Nat} {S1 : List (Nat × Nat)} {P : List Nat} {X : Nat → Int32} {mm : Bool} {M0 : Int32} {I : Nat → Nat → Int32} {L : Nat → Int64} {Q : Option Value → (Nat → Nat → Int32) → (Nat → Int64) → Prop} (hG : cG I n ln lo hi) (hN : g_net n ln lo hi) (hl : l < ln) (hend : lo l = u ∨ hi l = u) (hk3 : kk < 3) (hB : cB I ((kk, w) :: S1)) (hS : S1.length < 16) (hL : cL I P X mm M0) (hP : P.length < 21)
    (K : ∀ I', Sm [2818, 2880, 2944, 3009, 3072, 384] I I' → cB I' (if kk = 2 then S1 else (kk, w) :: S1) → cL I' (g_ot lo hi l u :: P) (fun j => if j = l then X j + 1 else X j) mm M0 → Q (some (.int (nI (g_ot lo hi l u)))) I' L) : XS mX1_crossLink 0 [(0, .ref 43), (1, .int (nI l)), (2, .int (nI u))] [] I L Q := by
  have hn8 := hN.2.1
  have hln := hN.2.2.1
  have hb := hN.2.2.2.1 l hl
  have rest : ∀ I1, Sm [2818] I I1 → cB I1 (if kk = 2 then S1 else (kk, w) :: S1) → XS mX1_crossLink 18 [(0, .ref 43), (1, .int (nI l)), (2, .int (nI u))] [] I1 L Q := by
    intro I1 s1 hB1
    have hL1 : cL I1 P X mm M0 := hL.sm s1 (by decide)
    refine bX1_crossLink_18 (c_otherEnd (hG.sm s1 (by decide) (by decide) (by decide) (by decide)) hN hl (by omega) ?_)
    rw [g_oe_ot hend]
    refine bX1_crossLink_27 (vp_in_nI (by omega) (by decide)) (vp_in_nI (by omega) (by decide)) ?_
    rw [nI_clamp (by omega)]
    show XS mX6_put 0 [(0, .ref 47), (1, .int (nI (g_ot lo hi l u)))] [] _ _ _
    refine c_rput' k_passed (m := P.length) (by rw [x_up_ne (by decide)]; exact hL1.1) hP (bX1_crossLink_49 ?_)
    refine K _ ((((s1.mono (by decide)).up (by decide)).up (by decide)).up (by decide)) (hB1.sm (T := [3009, 3072, 384]) (((Sm.rf.up (by decide)).up (by decide)).up (by decide)) (by decide) (by decide) (by decide)) ⟨by rw [x_up_at]; rfl, ⟨?_, g_rp_sm hL1.2.1 (fun i hi => ?_)⟩, fun j hj => ?_, ?_, ?_⟩
    · rw [x_up_ne (by decide), x_up_at]
    · rw [x_up_ne (by decide), x_up_off (by omega), x_up_ne (by decide)]
    · rw [x_up_ne (by decide), x_up_ne (by decide)]
      by_cases hjl : j = l
      · subst hjl
        have := hL1.2.2.1 j hj
        rw [x_up_at, show I1 384 j = X j from this]
        dsimp only
        rw [if_pos rfl]
      · rw [x_up_off hjl]
        dsimp only
        rw [if_neg hjl]
        exact hL1.2.2.1 j hj
    · rw [x_up_ne (by decide), x_up_ne (by decide), x_up_ne (by decide)]; exact hL1.2.2.2.1
    · rw [x_up_ne (by decide), x_up_ne (by decide), x_up_ne (by decide)]; exact hL1.2.2.2.2
  refine bX1_crossLink_0 (c_topKind hB hS (bX1_crossLink_7 (fun h => ?_) (fun h => ?_)))
  · have hk : kk ≠ 2 := fun q => h (by subst q; rfl)
    exact rest I Sm.rf (by rw [if_neg hk]; exact hB)
  · have hk : kk = 2 := (i_eq kk 2 rfl rfl (by omega) (by decide)).mp h
    exact bX1_crossLink_11 (c_dropTop hB hS (fun I1 s1 hB1 => rest I1 s1 (by rw [if_pos hk]; exact hB1)))
theorem c_mend {n ln l u kk w : Nat} {lo hi c0 c1 seen : Nat → Nat} {S1 : List (Nat × Nat)} {P : List Nat} {X : Nat → Int32} {pr mm : Bool} {M0 : Int32} {I : Nat → Nat → Int32} {L : Nat → Int64} {Q : Option Value → (Nat → Nat → Int32) → (Nat → Int64) → Prop} (hG : cG I n ln lo hi) (hN : g_net n ln lo hi) (hC0 : cC I ln 0 c0) (hC1 : cC I ln 1 c1) (hc0 : g_cs ln c0) (hc1 : g_cs ln c1) (hu : u < n) (hseen : ∀ u, u < n → I 448 u = nI (seen u) ∧ seen u < 2 ^ 31) (hl : l < ln) (hend : lo l = u ∨ hi l = u) (hsg : g_sg n ln (kk, w)) (hpr : I 2757 0 = i_b pr) (hB : cB I ((kk, w) :: S1)) (hS : mm = false → S1.length < 8) (hS16 : S1.length < 16) (hL : cL I P X mm M0)
    (K0 : ∀ I', Sm [1088, 1152, 1216, 2049, 2112, 2176, 2240, 2304, 2368, 2432, 2496, 2562, 2624, 2688] I I' → (pr = false ∨ mm = true ∨ (pr = true ∧ mm = false ∧ g_fd n ln lo hi c0 c1 (seen u) l u (if kk = 2 then g_ot lo hi l u else w) none)) → Q (some (.int 0)) I' L)
    (K1 : ∀ I' F, Sm [1088, 1152, 1216, 2049, 2112, 2176, 2240, 2304, 2368, 2432, 2496, 2562, 2624, 2688, 2818, 2880, 2944, 2762, 2760] I I' → pr = true → mm = false → g_fd n ln lo hi c0 c1 (seen u) l u (if kk = 2 then g_ot lo hi l u else w) (some F) → cB I' (F ++ (if kk = 2 then S1 else (kk, w) :: S1)) → cL I' P X true M0 → Q (some (.int 1)) I' L) :
    XS mX1_mend 0 [(0, .ref 43), (1, .int (nI u)), (2, .int (nI l))] [] I L Q := by
  have hn8 := hN.2.1
  have hln := hN.2.2.1
  have hb := hN.2.2.2.1 l hl
  have hk3 : kk < 3 := hsg.1
  have hot := g_ot_lt (u := u) hN hl
  refine bX1_mend_0 (fun h => bX1_mend_14 (K0 I Sm.rf (Or.inl ?_))) (fun h => bX1_mend_7 (fun h2 => ?_) (fun h2 => bX1_mend_14 (K0 I Sm.rf (Or.inr (Or.inl ?_)))))
  · have h' : I 2757 0 = 0 := h
    rw [hpr, i_b0] at h'; exact h'
  · have h' : ¬ I 2757 0 = 0 := h
    rw [hpr, i_b0] at h'
    have h2' : I 2762 0 = 0 := h2
    rw [hL.2.2.2.1, i_b0] at h2'
    have hp : pr = true := by simpa using h'
    have hto : (if kk = 2 then g_ot lo hi l u else w) < n := by
      by_cases hk : kk = 2
      · rw [if_pos hk]; exact hot
      · rw [if_neg hk]; exact hsg.2.2 (by show kk < 2; omega)
    have sn := hseen u hu
    have rep : XS mX1_mend 56 [(0, .ref 43), (1, .int (nI u)), (2, .int (nI l)), (3, .int (i_b (decide (kk = 2))))] [.int (nI (if kk = 2 then g_ot lo hi l u else w))] I L Q := by
      refine bX1_mend_56 (c_findRepair hG hN hC0 hC1 hc0 hc1 sn.2 (by omega) hu hto sn.1 (fun I1 b T s1 hRP hT => ?_))
      cases b with
      | false => exact bX1_mend_69 (fun h => absurd rfl h) (fun _ => bX1_mend_72 (K0 I1 s1 (Or.inr (Or.inr ⟨hp, h2', T, _, _, hRP⟩))))
      | true =>
        refine bX1_mend_69 (fun _ => ?_) (fun h => absurd h (by decide))
        obtain ⟨F, f1, f2, f3⟩ := g_fd_of hN hRP
        have hF8 : F.length < 8 := f2.1
        have hB1 : cB I1 ((kk, w) :: S1) := hB.sm s1 (by decide) (by decide) (by decide)
        have hL1 : cL I1 P X mm M0 := hL.sm s1 (by decide)
        have hS8 := hS h2'
        have put : ∀ I2, Sm [2818] I1 I2 → cB I2 (if kk = 2 then S1 else (kk, w) :: S1) → XS mX1_mend 85 [(0, .ref 43)] [] I2 L Q := by
          intro I2 s2 hB2
          refine bX1_mend_85 (c_putOnTop k_found (by decide) (by decide) (by decide) (F := F) (by rw [s2 _ (by decide), hT rfl, f1]) (fun t ht => by rw [s2 _ (by decide), s2 _ (by decide)]; exact f3 t (by omega)) (by omega) hB2 (by have := g_if_len (kk := kk) (w := w) (S1 := S1); omega) (fun I3 s3 hB3 => bX1_mend_99 ?_))
          have hL3 : cL I3 P X mm M0 := (hL1.sm s2 (by decide)).sm s3 (by decide)
          refine K1 _ F ((((s1.mono (by decide)).tr (s2.mono (by decide))).tr (s3.mono (by decide)) |>.up (by decide)).up (by decide)) hp h2' f2 (hB3.sm (T := [2762, 2760]) ((Sm.rf.up (by decide)).up (by decide)) (by decide) (by decide) (by decide)) ⟨?_, g_rp_sm hL3.2.1 (fun i _ => by rw [x_up_ne (by decide), x_up_ne (by decide)]), fun j hj => ?_, ?_, ?_⟩
          · rw [x_up_ne (by decide), x_up_ne (by decide)]; exact hL3.1
          · rw [x_up_ne (by decide), x_up_ne (by decide)]; exact hL3.2.2.1 j hj
          · rw [x_up_ne (by decide), x_up_at]; rfl
          · rw [x_up_at, x_up_ne (by decide)]
            have e : I3 2760 0 = M0 + i_b mm := hL3.2.2.2.2
            rw [e, h2']
            show M0 + 0 + 1 = M0 + 1
            rw [Int32.add_zero]
        by_cases hk : kk = 2
        · rw [show decide (kk = 2) = true by simpa using hk]
          exact bX1_mend_74 (fun h => absurd h (by decide)) (fun _ => bX1_mend_78 (c_dropTop hB1 hS16 (fun I2 s2 hB2 => put I2 s2 (by rw [if_pos hk]; exact hB2))))
        · rw [show decide (kk = 2) = false by simpa using hk]
          exact bX1_mend_74 (fun _ => put I1 Sm.rf (by rw [if_neg hk]; exact hB1)) (fun h => absurd rfl h)
    refine bX1_mend_16 (c_topKind hB hS16 (bX1_mend_23 (fun h => ?_) (fun h => ?_)))
    · have hk : kk ≠ 2 := fun q => h (by subst q; rfl)
      rw [show decide (kk = 2) = false by simpa using hk, if_neg hk] at rep
      exact bX1_mend_31 (bX1_mend_32 (fun _ => bX1_mend_49 (c_topWhat hB hS16 rep)) (fun h => absurd rfl h))
    · have hk : kk = 2 := (i_eq kk 2 rfl rfl (by omega) (by decide)).mp h
      rw [show decide (kk = 2) = true by simpa using hk, if_pos hk] at rep
      refine bX1_mend_27 (bX1_mend_32 (fun h => absurd h (by decide)) (fun _ => bX1_mend_37 (c_otherEnd hG hN hl (by omega) ?_)))
      rw [g_oe_ot hend]
      exact bX1_mend_46 rep
  · have h2' : ¬ I 2762 0 = 0 := h2
    rw [hL.2.2.2.1, i_b0] at h2'
    simpa using h2'
theorem c_carry {n ln U u : Nat} {lo hi c0 c1 seen : Nat → Nat} {S : List (Nat × Nat)} {X : Nat → Int32} {pr : Bool} {M0 : Int32} {I : Nat → Nat → Int32} {L : Nat → Int64} {Q : Option Value → (Nat → Nat → Int32) → (Nat → Int64) → Prop} (hG : cG I n ln lo hi) (hN : g_net n ln lo hi) (hC0 : cC I ln 0 c0) (hC1 : cC I ln 1 c1) (hc0 : g_cs ln c0) (hc1 : g_cs ln c1) (hU : I 66 0 = nI U) (hU2 : U < 2 ^ 31) (hu : u < n) (hseen : ∀ u, u < n → I 448 u = nI (seen u) ∧ seen u < 2 ^ 31) (hpr : I 2757 0 = i_b pr) (hB : cB I S) (hS8 : S.length ≤ 8) (hsg : ∀ p, p ∈ S → g_sg n ln p) (hL : cL I [u] X false M0)
    (K : ∀ I' R, Sm [1088, 1152, 1216, 2049, 2112, 2176, 2240, 2304, 2368, 2432, 2496, 2562, 2624, 2688, 2818, 2880, 2944, 2762, 2760, 3009, 3072, 384] I I' → g_L n ln lo hi c0 c1 seen U pr 22 u S [u] X false R → cL I' R.2.1 R.2.2.1 R.2.2.2 M0 → R.2.1.length ≤ 21 → Q (some (.int R.1)) I' L) :
    XS mX1_carry 0 [(0, .ref 43), (1, .int (nI u))] [] I L Q := by
  have hn8 := hN.2.1
  have hln := hN.2.2.1
  generalize hAll : [1088, 1152, 1216, 2049, 2112, 2176, 2240, 2304, 2368, 2432, 2496, 2562, 2624, 2688, 2818, 2880, 2944, 2762, 2760, 3009, 3072, 384] = All at K
  have inA : ∀ {T : List Nat}, (∀ r, r ∈ T → r ∈ [1088, 1152, 1216, 2049, 2112, 2176, 2240, 2304, 2368, 2432, 2496, 2562, 2624, 2688, 2818, 2880, 2944, 2762, 2760, 3009, 3072, 384]) → ∀ r, r ∈ T → r ∈ All := fun h r hr => hAll ▸ h r hr
  have off : ∀ r, r ∉ [1088, 1152, 1216, 2049, 2112, 2176, 2240, 2304, 2368, 2432, 2496, 2562, 2624, 2688, 2818, 2880, 2944, 2762, 2760, 3009, 3072, 384] → r ∉ All := fun r h q => h (hAll ▸ q)
  have kG : ∀ {I'}, Sm All I I' → cG I' n ln lo hi := fun hs => hG.sm hs (off _ (by decide)) (off _ (by decide)) (off _ (by decide)) (off _ (by decide))
  have kC0 : ∀ {I' : Nat → Nat → Int32}, Sm All I I' → cC I' ln 0 c0 := fun hs l hl => by rw [hs _ (off _ (by decide))]; exact hC0 l hl
  have kC1 : ∀ {I' : Nat → Nat → Int32}, Sm All I I' → cC I' ln 1 c1 := fun hs l hl => by rw [hs _ (off _ (by decide))]; exact hC1 l hl
  have kseen : ∀ {I' : Nat → Nat → Int32}, Sm All I I' → ∀ u, u < n → I' 448 u = nI (seen u) ∧ seen u < 2 ^ 31 := fun hs u hu => by rw [hs _ (off _ (by decide))]; exact hseen u hu
  have key : ∀ fuel t u S P X mm I', t + fuel = 22 → P.length ≤ 21 → 1 ≤ P.length → P.length + (if mm = true then 1 else 0) = t + 1 → (∀ p, p ∈ S → g_sg n ln p) → u < n → S.length ≤ (if mm = true then 15 else 8) → Sm All I I' → cB I' S → cL I' P X mm M0 → (∀ I2 R, Sm All I I2 → g_L n ln lo hi c0 c1 seen U pr fuel u S P X mm R → cL I2 R.2.1 R.2.2.1 R.2.2.2 M0 → R.2.1.length ≤ 21 → Q (some (.int R.1)) I2 L) → XS mX1_carry 4 [(0, .ref 43), (2, .int (nI u)), (3, .int (nI t))] [] I' L Q := by
    intro fuel
    induction fuel with
    | zero =>
      intro t u S P X mm I' ht hP hP0 hPm
      split at hPm <;> omega
    | succ k ih =>
      intro t u S P X mm I' ht hP hP0 hPm hsg hu hS hs hB hL KK
      have hS15 : S.length ≤ 15 := by split at hS <;> omega
      have hdl := g_dw_len (u := u) (S := S)
      refine bX1_carry_4 (fun h => ?_) (fun _ => bX1_carry_10 (bX1_takeOffReached_0 ?_))
      · have := (i_le 22 t rfl rfl (by decide) (by omega)).mp h; omega
      have hbs : I' 2818 0 = nI S.length := hB.1
      rw [hbs]
      refine c_takeOff (n := n) (ln := ln) (by omega) (by omega) (by omega) hB (by omega) hsg (fun I1 s1 hB1 => ?_)
      have hs1 : Sm All I I1 := hs.tr (s1.mono (inA (by decide)))
      have hL1 : cL I1 P X mm M0 := hL.sm s1 (by decide)
      have hbs1 : I1 2818 0 = nI (g_dw u S).length := hB1.1
      have hsg1 : ∀ p, p ∈ g_dw u S → g_sg n ln p := fun p hp => hsg p (g_dw_mem hp)
      cases hd : g_dw u S with
      | nil =>
        rw [hd] at hbs1
        refine bX1_carry_15 (fun h => absurd hbs1 h) (fun _ => bX1_carry_25 ?_)
        exact KK I1 (nI u, P, X, mm) hs1 (g_L_end hd) hL1 hP
      | cons p S1 =>
        obtain ⟨kk, w⟩ := p
        rw [hd] at hbs1 hB1 hdl hsg1
        simp only [List.length_cons] at hbs1 hdl
        have hsgt := hsg1 (kk, w) (by simp)
        refine bX1_carry_15 (fun _ => bX1_carry_27 (bX1_hops_0 (bX1_carry_31 (fun h => ?_) (fun h => ?_)))) (fun h => ?_)
        · have hpl : I1 3009 0 = nI P.length := hL1.1
          have hP1 : 1 ≤ P.length := hP0
          have h' : nI (P.length - 1) < nI 20 := by
            have e : I1 3009 0 - (1 : Int32) = nI (P.length - 1) := by rw [hpl]; exact i_sub (a := P.length) (b := 1) hP1
            rw [← e]; exact h
          rw [nI_ltI (by omega) (by omega)] at h'
          have hPn : P.length ≠ 21 := by omega
          refine bX1_carry_39 (c_linkAhead2 (kG hs1) hN (kC0 hs1) (kC1 hs1) hc0 hc1 hu (kseen hs1) hB1 (by omega) hsgt (fun I2 s2 => ?_))
          have hs2 : Sm All I I2 := hs1.tr (s2.mono (inA (by decide)))
          have hL2 : cL I2 P X mm M0 := hL1.sm s2 (by decide)
          have hB2 : cB I2 ((kk, w) :: S1) := hB1.sm s2 (by decide) (by decide) (by decide)
          cases hlh : g_lh n ln lo hi c0 c1 seen u kk w with
          | none =>
            refine bX1_carry_44 (fun h => ?_) (fun _ => bX1_carry_51 (KK I2 (g_er kk, P, X, mm) hs2 (g_L_no hd hPn hlh) hL2 hP))
            exfalso
            revert h
            show ¬ (0 : Int32) ≤ g_er kk
            unfold g_er
            split <;> decide
          | some l =>
            obtain ⟨hl, hend⟩ := g_lh_lt hN hsgt hlh
            refine bX1_carry_44 (fun _ => bX1_carry_54 (c_isUp (U := U) (by rw [hs2 _ (off _ (by decide))]; exact hU) hU2 (by omega) ?_)) (fun h => absurd ((i_le 0 l rfl rfl (by decide) (by omega)).mpr (by omega)) h)
            cases hUl : U.testBit l with
            | true =>
              refine bX1_carry_63 (fun h => absurd h (by decide)) (fun _ => bX1_carry_66 (c_crossLink (kG hs2) hN hl hend hsgt.1 hB2 (by omega) hL2 (by omega) (fun I3 s3 hB3 hL3 => bX1_carry_73 (bX1_carry_90 ?_))))
              rw [nI_1]
              refine ih (t + 1) (g_ot lo hi l u) _ _ _ mm I3 (by omega) (by simp; omega) (by simp) (by simp; omega) (fun p hp => ?_) (g_ot_lt hN hl) ?_ (hs2.tr (s3.mono (inA (by decide)))) hB3 hL3 (fun I4 R s4 hR hL4 hP4 => KK I4 R s4 (g_L_over hd hPn hlh hUl hR) hL4 hP4)
              · split at hp
                · exact hsg1 p (by simp [hp])
                · exact hsg1 p hp
              · exact Nat.le_trans (g_if_len (kk := kk) (w := w) (S1 := S1)) (by omega)
            | false =>
              refine bX1_carry_63 (fun _ => bX1_carry_77 (c_mend (pr := pr) (kG hs2) hN (kC0 hs2) (kC1 hs2) hc0 hc1 hu (kseen hs2) hl hend hsgt (by rw [hs2 _ (off _ (by decide))]; exact hpr) hB2 (fun hm => by rw [hm] at hS; simp at hS; omega) (by omega) hL2 (fun I3 s3 hno => ?_) (fun I3 F s3 hp hm hF hB3 hL3 => ?_))) (fun h => absurd rfl h)
              · refine bX1_carry_84 (fun h => absurd rfl h) (fun _ => bX1_carry_87 (KK I3 (-12, P, X, mm) (hs2.tr (s3.mono (inA (by decide)))) ?_ (hL2.sm s3 (by decide)) hP))
                rcases hno with h | h | ⟨h1, h2, h3⟩
                · exact g_L_down hd hPn hlh hUl (Or.inl h)
                · exact g_L_down hd hPn hlh hUl (Or.inr h)
                · exact g_L_down2 hd hPn hlh hUl h1 h2 h3
              · refine bX1_carry_84 (fun _ => bX1_carry_90 ?_) (fun h => absurd h (by decide))
                rw [nI_1]
                have hF8 : F.length < 8 := hF.1
                have hFs := hF.2.1
                refine ih (t + 1) u _ P X true I3 (by omega) hP hP0 (by rw [hm] at hPm; simp at hPm ⊢; omega) (fun p hp' => ?_) hu ?_ (hs2.tr (s3.mono (inA (by decide)))) hB3 hL3 (fun I4 R s4 hR hL4 hP4 => KK I4 R s4 (g_L_mend hd hPn hlh hUl hp hm hF hR) hL4 hP4)
                · rw [List.mem_append] at hp'
                  rcases hp' with q | q
                  · exact hFs p q
                  · split at q
                    · exact hsg1 p (by simp [q])
                    · exact hsg1 p q
                · rw [hm] at hS
                  simp at hS
                  have := g_if_len (kk := kk) (w := w) (S1 := S1)
                  rw [List.length_append, if_pos rfl]
                  omega
        · have hpl : I1 3009 0 = nI P.length := hL1.1
          have hP1 : 1 ≤ P.length := hP0
          have h' : ¬ nI (P.length - 1) < nI 20 := by
            have e : I1 3009 0 - (1 : Int32) = nI (P.length - 1) := by rw [hpl]; exact i_sub (a := P.length) (b := 1) hP1
            rw [← e]; exact h
          rw [nI_ltI (by omega) (by omega)] at h'
          exact bX1_carry_36 (KK I1 (-14, P, X, mm) hs1 (g_L_far hd (by omega)) hL1 hP)
        · rw [hbs1] at h
          have := (i_eq _ 0 rfl rfl (by omega) (by decide)).mp h
          omega
  exact bX1_carry_0 (key 22 0 u S [u] X false I (by omega) (by simp) (by simp) (by simp) hsg hu (by simpa using hS8) Sm.rf hB hL (fun I2 R s2 hR hL2 hP2 => K I2 R s2 hR hL2 hP2))
