/-! ===== the class's rings ===== -/
def cRg (I : Nat → Nat → Int32) (nxU nxS : Nat → Nat → Option Nat) (n w : Nat) : Prop := ∀ u, u < n → I 1408 (8 * w + u) = i_o (nxU u w) ∧ I 1344 (8 * w + u) = i_o (nxS u w)
def cFr (I I' : Nat → Nat → Int32) (w : Nat) : Prop := ∀ j, j / 8 ≠ w → I' 1408 j = I 1408 j ∧ I' 1344 j = I 1344 j
noncomputable def g_nS (n ln : Nat) (lo hi c : Nat → Nat) (seen : Nat → Nat) (u w : Nat) : Option Nat := g_nxt (g_e ln lo hi c (seen u)) n u w
theorem c_lookTowards {n ln U w : Nat} {lo hi c seen : Nat → Nat} {I : Nat → Nat → Int32} {L : Nat → Int64} {Q : Option Value → (Nat → Nat → Int32) → (Nat → Int64) → Prop} (hG : cG I n ln lo hi) (hN : g_net n ln lo hi) (hC : cC I ln 0 c) (hc : g_cs ln c) (hU : I 66 0 = nI U) (hU2 : U < 2 ^ 31) (hseen : ∀ u, u < n → I 448 u = nI (seen u) ∧ seen u < 2 ^ 31) (hw : w < n)
    (K : ∀ I', Sm [1088, 1152, 1216, 1408, 1344] I I' → cRg I' (g_nxt (g_e ln lo hi c U) n) (g_nS n ln lo hi c seen) n w → cFr I I' w → Q none I' L) :
    XS mX4_lookTowards 0 [(0, .ref 20), (1, .int (nI w))] [] I L Q := by
  have hn8 := hN.2.1
  have hln := hN.2.2.1
  have hix : ∀ u, nI w * (8 : Int32) + nI u = nI (8 * w + u) := fun u => by rw [i_mul8, nI_add, Nat.mul_comm]
  have hrow : nI w * (8 : Int32) = nI (8 * w) := by rw [i_mul8, Nat.mul_comm]
  have hvp : ∀ u, u < n → vp_in (nI (8 * w + u)) 64 := fun u hu => vp_in_nI (by omega) (by decide)
  have kn : ∀ {I' : Nat → Nat → Int32}, Sm [1088, 1152, 1216, 1408, 1344] I I' → I' 64 0 = nI n := fun hs => by rw [hs 64 (by decide)]; exact hG.1
  have ku : ∀ {I' : Nat → Nat → Int32}, Sm [1088, 1152, 1216, 1408, 1344] I I' → I' 66 0 = nI U := fun hs => by rw [hs 66 (by decide)]; exact hU
  have ks : ∀ {I' : Nat → Nat → Int32}, Sm [1088, 1152, 1216, 1408, 1344] I I' → ∀ u, u < n → I' 448 u = nI (seen u) := fun hs u hu => by rw [hs 448 (by decide)]; exact (hseen u hu).1
  have kC : ∀ {I' : Nat → Nat → Int32}, Sm [1088, 1152, 1216, 1408, 1344] I I' → cC I' ln 0 c := fun hs l hl => by rw [hs _ (by decide)]; exact hC l hl
  -- the second loop
  have second : ∀ k u I', u + k = n → Sm [1088, 1152, 1216, 1408, 1344] I I' → (∀ x, x < n → I' 1408 (8 * w + x) = i_o (g_nxt (g_e ln lo hi c U) n x w)) → (∀ x, x < u → I' 1344 (8 * w + x) = i_o (g_nS n ln lo hi c seen x w)) → cFr I I' w → XS mX4_lookTowards 58 [(0, .ref 20), (1, .int (nI w)), (2, .int (nI (8 * w))), (3, .int (nI u))] [] I' L Q := by
    intro k
    induction k with
    | zero =>
      intro u I' hu hs h1 h2 h3
      refine bX4_lookTowards_58 (fun _ => bX4_lookTowards_144 (K I' hs (fun x hx => ⟨h1 x hx, h2 x (by omega)⟩) h3)) (fun h => ?_)
      rw [kn hs, nI_leI (by omega) (by omega)] at h; omega
    | succ k ih =>
      intro u I' hu hs h1 h2 h3
      have hix' : nI (8 * w) + nI u = nI (8 * w + u) := nI_add _ _
      have hs2 : Sm [1088, 1152, 1216, 1408, 1344] I (x_up I' 1344 (8 * w + u) (I' 1408 (8 * w + u))) := hs.up (by decide)
      have hu2 : (x_up I' 1344 (8 * w + u) (I' 1408 (8 * w + u))) 1408 = I' 1408 := x_up_ne (by decide)
      have hu3 : (x_up I' 1344 (8 * w + u) (I' 1408 (8 * w + u))) 1344 (8 * w + u) = I' 1408 (8 * w + u) := x_up_at
      have hu4 : ∀ j, j ≠ 8 * w + u → (x_up I' 1344 (8 * w + u) (I' 1408 (8 * w + u))) 1344 j = I' 1344 j := fun j hj => x_up_off hj
      refine bX4_lookTowards_58 (fun h => ?_) (fun _ => bX4_lookTowards_69 (by rw [hix']; exact hvp u (by omega)) (by rw [hix']; exact hvp u (by omega)) (vp_in_nI (by omega) (by decide)) ?_ ?_)
      · rw [kn hs, nI_leI (by omega) (by omega)] at h; omega
      · rw [hix', nI_clamp (by omega), nI_clamp (by omega)]
        generalize (x_up I' 1344 (8 * w + u) (I' 1408 (8 * w + u))) = I2 at hs2 hu2 hu3 hu4
        intro h
        rw [ks hs2 u (by omega), ku hs2, nI_eq (by have := (hseen u (by omega)).2; omega) (by omega)] at h
        refine bX4_lookTowards_138 ?_
        rw [nI_1]
        refine ih (u + 1) I2 (by omega) hs2 (fun x hx => by rw [hu2]; exact h1 x hx) (fun x hx => ?_) (fun j hj => ?_)
        · by_cases hxu : x = u
          · subst hxu
            rw [hu3, h1 x (by omega)]
            unfold g_nS
            rw [h]
          · rw [hu4 _ (by omega)]; exact h2 x (by omega)
        · rw [hu2, hu4 j (by omega)]; exact h3 j hj
      · rw [hix', nI_clamp (by omega), nI_clamp (by omega)]
        generalize (x_up I' 1344 (8 * w + u) (I' 1408 (8 * w + u))) = I2 at hs2 hu2 hu3 hu4
        intro _
        refine bX4_lookTowards_104 (vp_in_nI (by omega) (by decide)) ?_
        rw [nI_clamp (by omega), ks hs2 u (by omega)]
        refine c_measure (kind := 0) (hG.sm hs2 (by decide) (by decide) (by decide) (by decide)) hN (kC hs2) hc (by omega) (hseen u (by omega)).2 hw (fun I3 s3 hM => bX4_lookTowards_122 (c_nodeAhead (by omega) (bX4_lookTowards_137 (by rw [hix']; exact hvp u (by omega)) (bX4_lookTowards_138 ?_))))
        rw [hix', nI_clamp (by omega), nI_1]
        refine ih (u + 1) _ (by omega) ((hs2.tr (s3.mono (by decide))).up (by decide)) (fun x hx => by rw [x_up_ne (by decide), s3 _ (by decide), hu2]; exact h1 x hx) (fun x hx => ?_) (fun j hj => ?_)
        · by_cases hxu : x = u
          · subst hxu
            rw [x_up_at, (hM x (by omega)).2.1]
            rfl
          · rw [x_up_off (by omega), s3 _ (by decide), hu4 _ (by omega)]; exact h2 x (by omega)
        · exact ⟨by rw [x_up_ne (by decide), s3 _ (by decide), hu2]; exact (h3 j hj).1, by rw [x_up_off (by omega), s3 _ (by decide), hu4 j (by omega)]; exact (h3 j hj).2⟩
  refine bX4_lookTowards_0 ?_
  have hU' : I 66 0 = nI U := hU
  rw [hU']
  refine c_measure (kind := 0) hG hN hC hc (by omega) hU2 hw (fun I1 s1 hM => bX4_lookTowards_21 ?_)
  rw [hrow]
  have first : ∀ k u I', u + k = n → Sm [1088, 1152, 1216, 1408, 1344] I I' → I' 1152 = I1 1152 → (∀ x, x < u → I' 1408 (8 * w + x) = i_o (g_nxt (g_e ln lo hi c U) n x w)) → cFr I I' w → XS mX4_lookTowards 23 [(0, .ref 20), (1, .int (nI w)), (2, .int (nI (8 * w))), (3, .int (nI u))] [] I' L Q := by
    intro k
    induction k with
    | zero =>
      intro u I' hu hs hA h1 h3
      refine bX4_lookTowards_23 (fun _ => bX4_lookTowards_56 (second n 0 I' (by omega) hs (fun x hx => h1 x (by omega)) (fun x hx => by omega) h3)) (fun h => ?_)
      rw [kn hs, nI_leI (by omega) (by omega)] at h; omega
    | succ k ih =>
      intro u I' hu hs hA h1 h3
      have hix' : nI (8 * w) + nI u = nI (8 * w + u) := nI_add _ _
      refine bX4_lookTowards_23 (fun h => ?_) (fun _ => bX4_lookTowards_34 (c_nodeAhead (by omega) (bX4_lookTowards_49 (by rw [hix']; exact hvp u (by omega)) ?_)))
      · rw [kn hs, nI_leI (by omega) (by omega)] at h; omega
      · rw [hix', nI_clamp (by omega), nI_1]
        refine ih (u + 1) _ (by omega) (hs.up (by decide)) (by rw [x_up_ne (by decide)]; exact hA) (fun x hx => ?_) (fun j hj => ?_)
        · by_cases hxu : x = u
          · subst hxu
            rw [x_up_at, hA, (hM x (by omega)).2.1]
          · rw [x_up_off (by omega)]; exact h1 x (by omega)
        · refine ⟨?_, ?_⟩
          · rw [x_up_off (by omega)]; exact (h3 j hj).1
          · rw [x_up_ne (by decide)]; exact (h3 j hj).2
  exact first n 0 I1 (by omega) (s1.mono (by decide)) rfl (fun x hx => by omega) (fun j hj => ⟨by rw [s1 _ (by decide)], by rw [s1 _ (by decide)]⟩)
theorem c_lookAround {n ln U : Nat} {lo hi c seen : Nat → Nat} {I : Nat → Nat → Int32} {L : Nat → Int64} {Q : Option Value → (Nat → Nat → Int32) → (Nat → Int64) → Prop} (hG : cG I n ln lo hi) (hN : g_net n ln lo hi) (hC : cC I ln 0 c) (hc : g_cs ln c) (hU : I 66 0 = nI U) (hU2 : U < 2 ^ 31) (hseen : ∀ u, u < n → I 448 u = nI (seen u) ∧ seen u < 2 ^ 31)
    (K : ∀ I', Sm [1088, 1152, 1216, 1408, 1344] I I' → (∀ w, w < n → cRg I' (g_nxt (g_e ln lo hi c U) n) (g_nS n ln lo hi c seen) n w) → Q none I' L) :
    XS mX4_lookAround 0 [(0, .ref 20)] [] I L Q := by
  have hn8 := hN.2.1
  have key : ∀ k w I', w + k = n → Sm [1088, 1152, 1216, 1408, 1344] I I' → (∀ x, x < w → cRg I' (g_nxt (g_e ln lo hi c U) n) (g_nS n ln lo hi c seen) n x) → XS mX4_lookAround 2 [(0, .ref 20), (1, .int (nI w))] [] I' L Q := by
    intro k
    induction k with
    | zero =>
      intro w I' hw hs h
      refine bX4_lookAround_2 (fun _ => bX4_lookAround_24 (K I' hs (fun x hx => h x (by omega)))) (fun h => ?_)
      rw [hs 64 (by decide), show I 64 0 = nI n from hG.1, nI_leI (by omega) (by omega)] at h; omega
    | succ k ih =>
      intro w I' hw hs h
      refine bX4_lookAround_2 (fun h => ?_) (fun _ => bX4_lookAround_13 ?_)
      · rw [hs 64 (by decide), show I 64 0 = nI n from hG.1, nI_leI (by omega) (by omega)] at h; omega
      · refine c_lookTowards (hG.sm hs (by decide) (by decide) (by decide) (by decide)) hN (fun l hl => by rw [hs _ (by decide)]; exact hC l hl) hc (by rw [hs _ (by decide)]; exact hU) hU2 (fun u hu => by rw [hs _ (by decide)]; exact hseen u hu) (by omega) (fun I2 s2 hR hF => bX4_lookAround_18 ?_)
        rw [nI_1]
        refine ih (w + 1) I2 (by omega) (hs.tr s2) (fun x hx => ?_)
        by_cases hxw : x = w
        · subst hxw; exact hR
        · intro u hu
          have := hF (8 * x + u) (by omega)
          rw [this.1, this.2]
          exact h x (by omega) u hu
  exact bX4_lookAround_0 (key n 0 I (by omega) Sm.rf (fun x hx => by omega))
theorem c_goesRound {n w x M : Nat} {nxU nxS : Nat → Nat → Option Nat} {I : Nat → Nat → Int32} {L : Nat → Int64} {Q : Option Value → (Nat → Nat → Int32) → (Nat → Int64) → Prop} (hn : I 64 0 = nI n) (hn8 : n ≤ 8) (hw : w < n) (hx : x < n) (hM : M < 2 ^ 31) (hR : cRg I nxU nxS n w) (hnx : ∀ u v, g_FL nxU nxS M w u = some v → v < n)
    (K : Q (some (.int (i_b (g_rb nxU nxS n M w x)))) I L) : XS mX4_goesRound 0 [(0, .ref 20), (1, .int (nI x)), (2, .int (nI w)), (3, .int (nI M))] [] I L Q := by
  have hn' : I 64 0 = nI n := hn
  have stop0 : ∀ v4 : Int32, (v4 = nI w ∨ v4 = -1) → Q (some (.int 0)) I L → XS mX4_goesRound 74 [(2, .int (nI w)), (4, .int v4)] [] I L Q := fun v4 h k => by
    refine bX4_goesRound_74 (fun _ => bX4_goesRound_90 (bX4_goesRound_91 (Or.inl rfl) k)) (fun h1 => bX4_goesRound_80 (fun _ => bX4_goesRound_90 (bX4_goesRound_91 (Or.inl rfl) k)) (fun h2 => ?_))
    rcases h with h | h
    · exact absurd h h1
    · exact absurd h h2
  have key : ∀ k s y, s + k = n → y < n → Q (some (.int (i_b (!g_en (g_FL nxU nxS M w) w k y)))) I L → XS mX4_goesRound 6 [(0, .ref 20), (2, .int (nI w)), (3, .int (nI M)), (4, .int (nI y)), (5, .int (nI s))] [] I L Q := by
    intro k
    induction k with
    | zero =>
      intro s y hs hy KK
      refine bX4_goesRound_6 (fun _ => ?_) (fun h => ?_)
      · by_cases hyw : y = w
        · subst hyw
          refine stop0 _ (Or.inl rfl) ?_
          simpa [g_en, i_b] using KK
        · refine bX4_goesRound_74 (fun h => absurd ((nI_eq (by omega) (by omega)).mp h) hyw) (fun _ => bX4_goesRound_80 (fun h => absurd h (i_m1ne (by omega))) (fun _ => bX4_goesRound_86 (bX4_goesRound_91 (Or.inr rfl) ?_)))
          simpa [g_en, hyw, i_b] using KK
      · rw [hn', nI_leI (by omega) (by omega)] at h; omega
    | succ k ih =>
      intro s y hs hy KK
      refine bX4_goesRound_6 (fun h => ?_) (fun _ => bX4_goesRound_18 (fun h => ?_) (fun h => bX4_goesRound_24 (fun h2 => absurd h2 (i_m1ne (by omega))) (fun _ => ?_)))
      · rw [hn', nI_leI (by omega) (by omega)] at h; omega
      · have hyw := (nI_eq (by omega) (by omega)).mp h
        refine stop0 _ (Or.inl h) ?_
        simpa [g_en, hyw, i_b] using KK
      · have hyw : y ≠ w := fun q => h (by rw [q])
        have goOn : XS mX4_goesRound 66 [(0, .ref 20), (2, .int (nI w)), (3, .int (nI M)), (5, .int (nI s))] [.int (i_o (g_FL nxU nxS M w y))] I L Q := by
          refine bX4_goesRound_66 ?_
          rw [nI_1]
          cases hf : g_FL nxU nxS M w y with
          | none =>
            have KK' : Q (some (.int 0)) I L := by simpa [g_en, hyw, hf, i_b] using KK
            refine bX4_goesRound_6 (fun _ => stop0 _ (Or.inr rfl) KK') (fun _ => bX4_goesRound_18 (fun _ => stop0 _ (Or.inr rfl) KK') (fun _ => bX4_goesRound_24 (fun _ => stop0 _ (Or.inr rfl) KK') (fun h => absurd rfl h)))
          | some z => exact ih (s + 1) z (by omega) (hnx y z hf) (by simpa [g_en, hyw, hf] using KK)
        have hix : nI w * (8 : Int32) + nI y = nI (8 * w + y) := by rw [i_mul8, nI_add, Nat.mul_comm]
        have hvp : vp_in (nI (8 * w + y)) 64 := vp_in_nI (by omega) (by decide)
        have hR' := hR y hy
        refine bX4_goesRound_30 (fun hb => ?_) (fun hb => ?_)
        · rw [i_bit hM (by omega), i_b1] at hb
          refine bX4_goesRound_59 (by rw [hix]; exact hvp) ?_
          have : g_FL nxU nxS M w y = nxS y w := by unfold g_FL; rw [if_neg hb]
          rw [this] at goOn
          rw [hix, nI_clamp (by omega)]
          have e : I 1344 (8 * w + y) = i_o (nxS y w) := hR'.2
          rw [e]
          exact goOn
        · rw [i_bit hM (by omega), i_b1] at hb
          refine bX4_goesRound_49 (by rw [hix]; exact hvp) ?_
          have : g_FL nxU nxS M w y = nxU y w := by unfold g_FL; rw [if_pos hb]
          rw [this] at goOn
          rw [hix, nI_clamp (by omega)]
          have e : I 1408 (8 * w + y) = i_o (nxU y w) := hR'.1
          rw [e]
          exact goOn
  exact bX4_goesRound_0 (key n 0 x (by omega) hx K)
theorem c_ringsOf {n w M : Nat} {nxU nxS : Nat → Nat → Option Nat} {I : Nat → Nat → Int32} {L : Nat → Int64} {Q : Option Value → (Nat → Nat → Int32) → (Nat → Int64) → Prop} (hn : I 64 0 = nI n) (hn8 : n ≤ 8) (hw : w < n) (hM : M < 2 ^ 31) (hR : cRg I nxU nxS n w) (hnx : ∀ u v, g_FL nxU nxS M w u = some v → v < n)
    (K : Q (some (.int (nI (g_rm nxU nxS n M w)))) I L) : XS mX4_ringsOf 0 [(0, .ref 20), (1, .int (nI w)), (2, .int (nI M))] [] I L Q := by
  have hn' : I 64 0 = nI n := hn
  have key : ∀ k x, x + k = n → XS mX4_ringsOf 5 [(0, .ref 20), (1, .int (nI w)), (2, .int (nI M)), (3, .int (nI (g_mk (g_rb nxU nxS n M w) x))), (4, .int (nI x))] [] I L Q := by
    intro k
    induction k with
    | zero =>
      intro x hx
      have : x = n := by omega
      subst this
      exact bX4_ringsOf_5 (fun _ => bX4_ringsOf_41 K) (fun h => absurd (by rw [hn']; exact (nI_leI (by omega) (by omega)).mpr (Nat.le_refl _)) h)
    | succ k ih =>
      intro x hx
      refine bX4_ringsOf_5 (fun h => ?_) (fun _ => bX4_ringsOf_17 (c_goesRound hn hn8 hw (by omega) hM hR hnx (bX4_ringsOf_25 (fun h => ?_) (fun h => bX4_ringsOf_28 ?_))))
      · rw [hn', nI_leI (by omega) (by omega)] at h; omega
      · rw [i_b0] at h
        refine bX4_ringsOf_35 ?_
        rw [nI_1]
        have := ih (x + 1) (by omega)
        rw [g_mk_succ, if_neg (by rw [h]; simp)] at this
        exact this
      · refine bX4_ringsOf_35 ?_
        rw [i_b0] at h
        have h' : g_rb nxU nxS n M w x = true := by simpa using h
        rw [nI_1, i_1shl (by omega), i_or]
        have := ih (x + 1) (by omega)
        rw [g_mk_succ, if_pos h'] at this
        exact this
  exact bX4_ringsOf_0 (key n 0 (by omega))
theorem g_rm_lt {nxU nxS : Nat → Nat → Option Nat} {n M w : Nat} (hn : n ≤ 8) : g_rm nxU nxS n M w < 256 := by
  have h1 := g_mk_lt (g_rb nxU nxS n M w) n
  have h2 := g_2n hn
  unfold g_rm
  omega
theorem c_hasRings {n M : Nat} {nxU nxS : Nat → Nat → Option Nat} {I : Nat → Nat → Int32} {L : Nat → Int64} {Q : Option Value → (Nat → Nat → Int32) → (Nat → Int64) → Prop} (hn : I 64 0 = nI n) (hn8 : n ≤ 8) (hM : M < 2 ^ 31) (hR : ∀ w, w < n → cRg I nxU nxS n w) (hnx : ∀ w u v, g_FL nxU nxS M w u = some v → v < n)
    (K : Q (some (.int (i_b (!g_safe nxU nxS n M)))) I L) : XS mX4_hasRings 0 [(0, .ref 20), (1, .int (nI M))] [] I L Q := by
  have hn' : I 64 0 = nI n := hn
  have key : ∀ k w, w + k = n → (∀ x, x < w → g_rm nxU nxS n M x = 0) → XS mX4_hasRings 2 [(0, .ref 20), (1, .int (nI M)), (2, .int (nI w))] [] I L Q := by
    intro k
    induction k with
    | zero =>
      intro w hw h
      refine bX4_hasRings_2 (fun _ => bX4_hasRings_30 ?_) (fun h => ?_)
      · have : g_safe nxU nxS n M = true := g_safe_iff.mpr (fun x hx => h x (by omega))
        rw [this] at K; exact K
      · rw [hn', nI_leI (by omega) (by omega)] at h; omega
    | succ k ih =>
      intro w hw h
      refine bX4_hasRings_2 (fun h => ?_) (fun _ => bX4_hasRings_13 (c_ringsOf hn hn8 (by omega) hM (hR w (by omega)) (hnx w) (bX4_hasRings_19 (fun h0 => bX4_hasRings_24 ?_) (fun h0 => bX4_hasRings_22 ?_))))
      · rw [hn', nI_leI (by omega) (by omega)] at h; omega
      · have hr := g_rm_lt (nxU := nxU) (nxS := nxS) (n := n) (M := M) (w := w) hn8
        have h0' := (i_eq _ 0 rfl rfl (by omega) (by omega)).mp h0
        rw [nI_1]
        exact ih (w + 1) (by omega) (fun x hx => by
          by_cases hxw : x = w
          · subst hxw; exact h0'
          · exact h x (by omega))
      · have : g_safe nxU nxS n M = false := by
          cases hs : g_safe nxU nxS n M with
          | false => rfl
          | true => exact absurd (by rw [g_safe_iff.mp hs w (by omega)]; rfl) h0
        rw [this] at K; exact K
  exact bX4_hasRings_0 (key n 0 (by omega) (fun x hx => by omega))
/-- who is behind -/
def g_bh (n U : Nat) (seen : Nat → Nat) : Nat := g_mk (fun u => decide (seen u ≠ U)) n
theorem c_behind {n U : Nat} {seen : Nat → Nat} {I : Nat → Nat → Int32} {L : Nat → Int64} {Q : Option Value → (Nat → Nat → Int32) → (Nat → Int64) → Prop} (hn : I 64 0 = nI n) (hn8 : n ≤ 8) (hU : I 66 0 = nI U) (hU2 : U < 2 ^ 31) (hseen : ∀ u, u < n → I 448 u = nI (seen u) ∧ seen u < 2 ^ 31) (K : Q (some (.int (nI (g_bh n U seen)))) I L) : XS mX2_behind 0 [(0, .ref 1)] [] I L Q := by
  have hn' : I 64 0 = nI n := hn
  have key : ∀ k x, x + k = n → XS mX2_behind 4 [(0, .ref 1), (1, .int (nI (g_mk (fun u => decide (seen u ≠ U)) x))), (2, .int (nI x))] [] I L Q := by
    intro k
    induction k with
    | zero =>
      intro x hx
      have : x = n := by omega
      subst this
      exact bX2_behind_4 (fun _ => bX2_behind_37 K) (fun h => absurd (by rw [hn']; exact (nI_leI (by omega) (by omega)).mpr (Nat.le_refl _)) h)
    | succ k ih =>
      intro x hx
      have hs := hseen x (by omega)
      have e1 : I 448 x = nI (seen x) := hs.1
      have e2 : I 66 0 = nI U := hU
      have ih' := ih (x + 1) (by omega)
      rw [g_mk_succ] at ih'
      refine bX2_behind_4 (fun h => ?_) (fun _ => bX2_behind_12 (vp_in_nI (by omega) (by decide)) (fun h => bX2_behind_31 ?_) (fun h => bX2_behind_25 (bX2_behind_31 ?_)))
      · rw [hn', nI_leI (by omega) (by omega)] at h; omega
      · rw [nI_clamp (by omega), e1, e2, nI_eq (by omega) (by omega)] at h
        rw [nI_1]
        rw [if_neg (by simp [h])] at ih'
        exact ih'
      · rw [nI_clamp (by omega), e1, e2, nI_eq (by omega) (by omega)] at h
        rw [nI_1, i_1shl (by omega), i_or]
        rw [if_pos (by simp [h])] at ih'
        exact ih'
  exact bX2_behind_0 (key n 0 (by omega))
