/-! ===== the reference's rings ===== -/
def mRg (I : Nat → Nat → Int32) (nxU nxS : Nat → Nat → Option Nat) (n : Nat) : Prop := ∀ u w, u < n → w < n → I 4352 (8 * u + w) = i_o (nxU u w) ∧ I 4288 (8 * u + w) = i_o (nxS u w)
theorem s_laysGoes {n ln U : Nat} {lo hi c seen : Nat → Nat} {I : Nat → Nat → Int32} {L : Nat → Int64} {Q : Option Value → (Nat → Nat → Int32) → (Nat → Int64) → Prop} (hG : mG I n ln lo hi) (hN : g_net n ln lo hi) (hC : mC I ln 0 c) (hc : g_cs ln c) (hU : I 3392 28 = nI U) (hU2 : U < 2 ^ 31) (hseen : ∀ u, u < n → I 3392 (29 + u) = nI (seen u) ∧ seen u < 2 ^ 31)
    (K : ∀ I', Sm [3712, 4288, 4352] I I' → mRg I' (g_nxt (g_e ln lo hi c U) n) (g_nS n ln lo hi c seen) n → Q none I' L) :
    XS mX10_laysGoes 0 [(0, .ref 49)] [] I L Q := by
  have hn8 := hN.2.1
  have hln := hN.2.2.1
  have kG : ∀ {I'}, Sm [3712, 4288, 4352] I I' → mG I' n ln lo hi := fun hs => hG.sm hs (by decide) (by decide) (by decide) (by decide)
  have kC : ∀ {I' : Nat → Nat → Int32}, Sm [3712, 4288, 4352] I I' → mC I' ln 0 c := fun hs l hl => by rw [hs _ (by decide)]; exact hC l hl
  have kn : ∀ {I' : Nat → Nat → Int32}, Sm [3712, 4288, 4352] I I' → I' 3136 0 = nI n := fun hs => by rw [hs 3136 (by decide)]; exact hG.1
  have kU : ∀ {I' : Nat → Nat → Int32}, Sm [3712, 4288, 4352] I I' → I' 3392 28 = nI U := fun hs => by rw [hs 3392 (by decide)]; exact hU
  have ks : ∀ {I' : Nat → Nat → Int32}, Sm [3712, 4288, 4352] I I' → ∀ u, u < n → I' 3392 (29 + u) = nI (seen u) := fun hs u hu => by rw [hs 3392 (by decide)]; exact (hseen u hu).1
  have hix : ∀ u w, (8 : Int32) * nI u + nI w = nI (8 * u + w) := fun u w => by rw [i_8mul, nI_add]
  have hvp : ∀ u w, u < n → w < n → vp_in ((8 : Int32) * nI u + nI w) 64 := fun u w hu hw => i_vp _ (hix u w) (by omega) (by decide)
  have h29 : ∀ u, (29 : Int32) + nI u = nI (29 + u) := fun u => nI_add 29 u
  have hv29 : ∀ u, u < n → vp_in ((29 : Int32) + nI u) 37 := fun u hu => i_vp _ (h29 u) (by omega) (by decide)
  -- the second part, by what is up
  have wrow : ∀ (u : Nat), u < n → ∀ (P : (Nat → Nat → Int32) → Prop), (∀ I2, P I2 → XS mX10_laysGoes 136 [(0, .ref 49), (1, .int (nI u))] [] I2 L Q) → ∀ k w I', w + k = n → Sm [3712, 4288, 4352] I I' → mFar I' (g_e ln lo hi c U) n → (∀ I2, Sm [3712, 4288, 4352] I I2 → mFar I2 (g_e ln lo hi c U) n → I2 4288 = I' 4288 → (∀ x y, y < n → (x < u ∨ (x = u ∧ y < w)) → I2 4352 (8 * x + y) = I' 4352 (8 * x + y)) → (∀ y, w ≤ y → y < n → I2 4352 (8 * u + y) = i_o (g_nxt (g_e ln lo hi c U) n u y)) → P I2) → XS mX10_laysGoes 97 [(0, .ref 49), (1, .int (nI u)), (2, .int (nI w))] [] I' L Q := by
    intro u hu P hP k
    induction k with
    | zero =>
      intro w I' hw hs hF hh
      refine bX10_laysGoes_97 (fun _ => hP I' (hh I' hs hF rfl (fun _ _ _ _ => rfl) (fun y h1 h2 => by omega))) (fun h => ?_)
      rw [kn hs, nI_leI (by omega) (by omega)] at h; omega
    | succ k ih =>
      intro w I' hw hs hF hh
      refine bX10_laysGoes_97 (fun h => ?_) (fun _ => bX10_laysGoes_105 ?_)
      · rw [kn hs, nI_leI (by omega) (by omega)] at h; omega
      · rw [kU hs]
        refine s_nextOf (kind := 0) (kG hs) hN (kC hs) hc (by omega) hU2 hF hu (by omega) (bX10_laysGoes_129 (hvp u w hu (by omega)) ?_)
        rw [hix, nI_clamp (by omega), nI_1]
        refine ih (w + 1) _ (by omega) (hs.up (by decide)) (fun a b ha hb => by rw [x_up_ne (by decide)]; exact hF a b ha hb) (fun I2 s2 f2 g2 h2 h3 => hh I2 s2 f2 (by rw [g2, x_up_ne (by decide)]) (fun x y hy hxy => ?_) (fun y hy hyn => ?_))
        · rw [h2 x y hy (by omega), x_up_off (by omega)]
        · by_cases hyw : y = w
          · subst hyw
            rw [h2 u y hyn (Or.inr ⟨rfl, by omega⟩), x_up_at]
          · exact h3 y (by omega) hyn
  have second : ∀ k u I', u + k = n → Sm [3712, 4288, 4352] I I' → mFar I' (g_e ln lo hi c U) n → (∀ x y, x < n → y < n → I' 4288 (8 * x + y) = i_o (g_nS n ln lo hi c seen x y)) → (∀ x y, x < u → y < n → I' 4352 (8 * x + y) = i_o (g_nxt (g_e ln lo hi c U) n x y)) → XS mX10_laysGoes 87 [(0, .ref 49), (1, .int (nI u))] [] I' L Q := by
    intro k
    induction k with
    | zero =>
      intro u I' hu hs hF h1 h2
      refine bX10_laysGoes_87 (fun _ => bX10_laysGoes_142 (K I' hs (fun x y hx hy => ⟨h2 x y (by omega) hy, h1 x y hx hy⟩))) (fun h => ?_)
      rw [kn hs, nI_leI (by omega) (by omega)] at h; omega
    | succ k ih =>
      intro u I' hu hs hF h1 h2
      refine bX10_laysGoes_87 (fun h => ?_) (fun _ => bX10_laysGoes_95 ?_)
      · rw [kn hs, nI_leI (by omega) (by omega)] at h; omega
      · refine wrow u (by omega) (fun I2 => Sm [3712, 4288, 4352] I I2 ∧ mFar I2 (g_e ln lo hi c U) n ∧ (∀ x y, x < n → y < n → I2 4288 (8 * x + y) = i_o (g_nS n ln lo hi c seen x y)) ∧ (∀ x y, x < u + 1 → y < n → I2 4352 (8 * x + y) = i_o (g_nxt (g_e ln lo hi c U) n x y))) (fun I2 hP => bX10_laysGoes_136 ?_) n 0 I' (by omega) hs hF (fun I2 s2 f2 g2 a2 b2 => ⟨s2, f2, fun x y hx hy => by rw [g2]; exact h1 x y hx hy, fun x y hx hy => ?_⟩)
        · rw [nI_1]
          exact ih (u + 1) I2 (by omega) hP.1 hP.2.1 hP.2.2.1 hP.2.2.2
        · by_cases hxu : x = u
          · subst hxu; exact b2 y (by omega) hy
          · rw [a2 x y hy (Or.inl (by omega))]; exact h2 x y (by omega) hy
  -- the first part, by what each has seen
  have srow : ∀ (u : Nat), u < n → ∀ (P : (Nat → Nat → Int32) → Prop), (∀ I2, P I2 → XS mX10_laysGoes 67 [(0, .ref 49), (1, .int (nI u))] [] I2 L Q) → ∀ k w I', w + k = n → Sm [3712, 4288, 4352] I I' → mFar I' (g_e ln lo hi c (seen u)) n → (∀ I2, Sm [3712, 4288, 4352] I I2 → (∀ x y, y < n → (x < u ∨ (x = u ∧ y < w)) → I2 4288 (8 * x + y) = I' 4288 (8 * x + y)) → (∀ y, w ≤ y → y < n → I2 4288 (8 * u + y) = i_o (g_nS n ln lo hi c seen u y)) → P I2) → XS mX10_laysGoes 26 [(0, .ref 49), (1, .int (nI u)), (2, .int (nI w))] [] I' L Q := by
    intro u hu P hP k
    induction k with
    | zero =>
      intro w I' hw hs hF hh
      refine bX10_laysGoes_26 (fun _ => hP I' (hh I' hs (fun _ _ _ _ => rfl) (fun y h1 h2 => by omega))) (fun h => ?_)
      rw [kn hs, nI_leI (by omega) (by omega)] at h; omega
    | succ k ih =>
      intro w I' hw hs hF hh
      refine bX10_laysGoes_26 (fun h => ?_) (fun _ => bX10_laysGoes_34 (hv29 u hu) ?_)
      · rw [kn hs, nI_leI (by omega) (by omega)] at h; omega
      · rw [h29, nI_clamp (by omega), ks hs u hu]
        refine s_nextOf (kind := 0) (kG hs) hN (kC hs) hc (by omega) (hseen u hu).2 hF hu (by omega) (bX10_laysGoes_60 (hvp u w hu (by omega)) ?_)
        rw [hix, nI_clamp (by omega), nI_1]
        refine ih (w + 1) _ (by omega) (hs.up (by decide)) (fun a b ha hb => by rw [x_up_ne (by decide)]; exact hF a b ha hb) (fun I2 s2 h2 h3 => hh I2 s2 (fun x y hy hxy => ?_) (fun y hy hyn => ?_))
        · rw [h2 x y hy (by omega), x_up_off (by omega)]
        · by_cases hyw : y = w
          · subst hyw
            rw [h2 u y hyn (Or.inr ⟨rfl, by omega⟩), x_up_at]
            rfl
          · exact h3 y (by omega) hyn
  have first : ∀ k u I', u + k = n → Sm [3712, 4288, 4352] I I' → (∀ x y, x < u → y < n → I' 4288 (8 * x + y) = i_o (g_nS n ln lo hi c seen x y)) → XS mX10_laysGoes 2 [(0, .ref 49), (1, .int (nI u))] [] I' L Q := by
    intro k
    induction k with
    | zero =>
      intro u I' hu hs h1
      refine bX10_laysGoes_2 (fun _ => bX10_laysGoes_73 ?_) (fun h => ?_)
      · rw [kU hs]
        refine s_lays (kind := 0) (kG hs) hN (kC hs) hc (by omega) hU2 (fun I2 s2 hF => bX10_laysGoes_85 (second n 0 I2 (by omega) (hs.tr (s2.mono (by decide))) hF (fun x y hx hy => ?_) (fun x y hx hy => by omega)))
        rw [s2 _ (by decide)]; exact h1 x y (by omega) hy
      · rw [kn hs, nI_leI (by omega) (by omega)] at h; omega
    | succ k ih =>
      intro u I' hu hs h1
      refine bX10_laysGoes_2 (fun h => ?_) (fun _ => bX10_laysGoes_10 (hv29 u (by omega)) ?_)
      · rw [kn hs, nI_leI (by omega) (by omega)] at h; omega
      · rw [h29, nI_clamp (by omega), ks hs u (by omega)]
        refine s_lays (kind := 0) (kG hs) hN (kC hs) hc (by omega) (hseen u (by omega)).2 (fun I2 s2 hF => bX10_laysGoes_24 ?_)
        refine srow u (by omega) (fun I3 => Sm [3712, 4288, 4352] I I3 ∧ (∀ x y, x < u + 1 → y < n → I3 4288 (8 * x + y) = i_o (g_nS n ln lo hi c seen x y))) (fun I3 hP => bX10_laysGoes_67 ?_) n 0 I2 (by omega) (hs.tr (s2.mono (by decide))) hF (fun I3 s3 a3 b3 => ⟨s3, fun x y hx hy => ?_⟩)
        · rw [nI_1]
          exact ih (u + 1) I3 (by omega) hP.1 hP.2
        · by_cases hxu : x = u
          · subst hxu; exact b3 y (by omega) hy
          · rw [a3 x y hy (Or.inl (by omega)), s2 _ (by decide)]; exact h1 x y (by omega) hy
  exact bX10_laysGoes_0 (first n 0 I (by omega) Sm.rf (fun x y hx hy => by omega))
theorem g_cntM {M x n : Nat} (hx : x < n) (hm : M.testBit x = false) : g_cnt (fun y => !(M ||| 2 ^ x).testBit y) n < g_cnt (fun y => !M.testBit y) n :=
  g_cnt_lt (fun i _ q => by rw [g_or_bit] at q; simp at q ⊢; exact q.1) hx (by rw [g_or_bit]; simp) (by simp [hm])
theorem s_ringsOf {n w M : Nat} {nxU nxS : Nat → Nat → Option Nat} {I : Nat → Nat → Int32} {L : Nat → Int64} {Q : Option Value → (Nat → Nat → Int32) → (Nat → Int64) → Prop} (hn : I 3136 0 = nI n) (hn8 : n ≤ 8) (hw : w < n) (hM : M < 2 ^ 31) (hR : mRg I nxU nxS n) (hnx : ∀ u v, g_FL nxU nxS M w u = some v → v < n)
    (K : Q (some (.int (nI (g_rm nxU nxS n M w)))) I L) : XS mX10_ringsOf 0 [(0, .ref 49), (1, .int (nI w)), (2, .int (nI M))] [] I L Q := by
  have hn' : I 3136 0 = nI n := hn
  have key : ∀ k x, x + k = n → XS mX10_ringsOf 5 [(0, .ref 49), (1, .int (nI w)), (2, .int (nI M)), (3, .int (nI (g_mk (g_rb nxU nxS n M w) x))), (4, .int (nI x))] [] I L Q := by
    intro k
    induction k with
    | zero =>
      intro x hx
      have : x = n := by omega
      subst this
      exact bX10_ringsOf_5 (fun _ => bX10_ringsOf_122 K) (fun h => absurd (by rw [hn']; exact (nI_leI (by omega) (by omega)).mpr (Nat.le_refl _)) h)
    | succ k ih =>
      intro x hx
      have ih' := ih (x + 1) (by omega)
      rw [g_mk_succ] at ih'
      have end1 : g_rb nxU nxS n M w x = true → ∀ y, y < n → y ≠ w → XS mX10_ringsOf 93 [(0, .ref 49), (1, .int (nI w)), (2, .int (nI M)), (3, .int (nI (g_mk (g_rb nxU nxS n M w) x))), (4, .int (nI x)), (5, .int (nI y))] [] I L Q := by
        intro hb y hy hyw
        refine bX10_ringsOf_93 (fun h => absurd h (i_m1ne (by omega))) (fun _ => bX10_ringsOf_100 (fun h => absurd ((nI_eq (by omega) (by omega)).mp h) hyw) (fun _ => bX10_ringsOf_106 (bX10_ringsOf_114 ?_)))
        rw [if_pos hb] at ih'
        rw [i_1shl (by omega), i_or, nI_1]
        exact ih'
      have end0 : g_rb nxU nxS n M w x = false → ∀ v5, (v5 = -1 ∨ v5 = nI w) → XS mX10_ringsOf 93 [(0, .ref 49), (1, .int (nI w)), (2, .int (nI M)), (3, .int (nI (g_mk (g_rb nxU nxS n M w) x))), (4, .int (nI x)), (5, .int v5)] [] I L Q := by
        intro hb v5 h5
        rw [if_neg (by rw [hb]; simp)] at ih'
        have fin : XS mX10_ringsOf 113 [(0, .ref 49), (1, .int (nI w)), (2, .int (nI M)), (4, .int (nI x))] [.int (nI (g_mk (g_rb nxU nxS n M w) x))] I L Q := by
          refine bX10_ringsOf_113 (bX10_ringsOf_114 ?_)
          rw [show (0 : Int32) = nI 0 from rfl, i_or, nI_1, Nat.or_zero]
          exact ih'
        refine bX10_ringsOf_93 (fun _ => fin) (fun h1 => bX10_ringsOf_100 (fun _ => fin) (fun h2 => ?_))
        rcases h5 with h5 | h5
        · exact absurd h5 h1
        · exact absurd h5 h2
      have rb : g_rb nxU nxS n M w x = false ↔ g_ends (g_FL nxU nxS M w) w x := by
        rw [← g_en_n (n := n) hnx (by omega)]
        unfold g_rb
        simp
      -- the walk from x
      have walk : ∀ f T y, y < n → T < 2 ^ 8 → g_cnt (fun z => !T.testBit z) n ≤ f → (∀ z, T.testBit z = true → z ≠ w ∧ ∃ v, g_FL nxU nxS M w z = some v ∧ (T.testBit v = true ∨ v = y)) → (g_ends (g_FL nxU nxS M w) w x ↔ g_ends (g_FL nxU nxS M w) w y) → XS mX10_ringsOf 21 [(0, .ref 49), (1, .int (nI w)), (2, .int (nI M)), (3, .int (nI (g_mk (g_rb nxU nxS n M w) x))), (4, .int (nI x)), (5, .int (nI y)), (6, .int (nI T))] [] I L Q := by
        intro f
        have hix : ∀ y, (8 : Int32) * nI y + nI w = nI (8 * y + w) := fun y => by rw [i_8mul, nI_add]
        have hvp : ∀ y, y < n → vp_in ((8 : Int32) * nI y + nI w) 64 := fun y hy => i_vp _ (hix y) (by omega) (by decide)
        induction f with
        | zero =>
          intro T y hy hT hc hcl hiff
          have hTy : T.testBit y = true := by
            cases hb : T.testBit y with
            | true => rfl
            | false =>
              have := g_cntM hy hb
              omega
          refine bX10_ringsOf_21 (fun h => absurd h (i_m1ne (by omega))) (fun _ => bX10_ringsOf_27 (fun h => ?_) (fun _ => bX10_ringsOf_33 (s_has (by omega) (by omega) ?_)))
          · exact absurd ((nI_eq (by omega) (by omega)).mp h) (hcl y hTy).1
          · rw [hTy]
            refine bX10_ringsOf_40 (fun _ => ?_) (fun h => absurd h (by decide))
            refine end1 ?_ y hy (hcl y hTy).1
            cases hb : g_rb nxU nxS n M w x with
            | true => rfl
            | false =>
              obtain ⟨k', hk'⟩ := hiff.mp (rb.mp hb)
              rw [g_en_closed (M := fun z => T.testBit z) (fun z hz => by
                obtain ⟨a, v, b, c⟩ := hcl z hz
                rcases c with c | rfl
                · exact ⟨a, v, b, c⟩
                · exact ⟨a, v, b, hTy⟩) k' y hTy] at hk'
              cases hk'
        | succ f ihf =>
          intro T y hy hT hc hcl hiff
          refine bX10_ringsOf_21 (fun h => absurd h (i_m1ne (by omega))) (fun _ => bX10_ringsOf_27 (fun h => ?_) (fun h => bX10_ringsOf_33 (s_has (by omega) (by omega) ?_)))
          · have hyw := (nI_eq (by omega) (by omega)).mp h
            exact end0 (rb.mpr (hiff.mpr ⟨0, by simp [g_en, hyw]⟩)) _ (Or.inr h)
          · have hyw : y ≠ w := fun q => h (by rw [q])
            cases hTy : T.testBit y with
            | true =>
              refine bX10_ringsOf_40 (fun _ => ?_) (fun h => absurd h (by decide))
              refine end1 ?_ y hy hyw
              cases hb : g_rb nxU nxS n M w x with
              | true => rfl
              | false =>
                obtain ⟨k', hk'⟩ := hiff.mp (rb.mp hb)
                rw [g_en_closed (M := fun z => T.testBit z) (fun z hz => by
                  obtain ⟨a, v, b, c⟩ := hcl z hz
                  rcases c with c | rfl
                  · exact ⟨a, v, b, c⟩
                  · exact ⟨a, v, b, hTy⟩) k' y hTy] at hk'
                cases hk'
            | false =>
              refine bX10_ringsOf_40 (fun h => absurd rfl h) (fun _ => bX10_ringsOf_43 (s_has hM (by omega) ?_))
              rw [i_1shl (by omega), i_or]
              have goOn : XS mX10_ringsOf 88 [(0, .ref 49), (1, .int (nI w)), (2, .int (nI M)), (3, .int (nI (g_mk (g_rb nxU nxS n M w) x))), (4, .int (nI x)), (6, .int (nI (T ||| 2 ^ y)))] [.int (i_o (g_FL nxU nxS M w y))] I L Q := by
                refine bX10_ringsOf_88 ?_
                cases hf : g_FL nxU nxS M w y with
                | none =>
                  refine bX10_ringsOf_21 (fun _ => ?_) (fun h => absurd rfl h)
                  exact end0 (rb.mpr (hiff.mpr ⟨1, by simp [g_en, hf]⟩)) _ (Or.inl rfl)
                | some v =>
                  refine ihf (T ||| 2 ^ y) v (hnx y v hf) (g_or_lt hT (by omega)) (by have := g_cntM hy hTy; omega) (fun z hz => ?_) (hiff.trans (g_ends_step hyw hf))
                  rw [g_or_bit] at hz
                  simp only [Bool.or_eq_true, decide_eq_true_eq] at hz
                  rcases hz with hz | rfl
                  · obtain ⟨a, v', b, c'⟩ := hcl z hz
                    refine ⟨a, v', b, Or.inl ?_⟩
                    rw [g_or_bit]
                    rcases c' with c' | rfl
                    · simp [c']
                    · simp
                  · exact ⟨hyw, v, hf, Or.inr rfl⟩
              have hR' := hR y w hy hw
              refine bX10_ringsOf_58 (fun hb => ?_) (fun hb => ?_)
              · rw [i_b0] at hb
                refine bX10_ringsOf_76 (hvp y hy) ?_
                have : g_FL nxU nxS M w y = nxS y w := by unfold g_FL; rw [if_neg (by rw [hb]; simp)]
                rw [this] at goOn
                have e : I 4288 (8 * y + w) = i_o (nxS y w) := hR'.2
                rw [hix, nI_clamp (by omega), e]
                exact goOn
              · rw [i_b0] at hb
                refine bX10_ringsOf_61 (hvp y hy) ?_
                have : g_FL nxU nxS M w y = nxU y w := by unfold g_FL; rw [if_pos (by simpa using hb)]
                rw [this] at goOn
                have e : I 4352 (8 * y + w) = i_o (nxU y w) := hR'.1
                rw [hix, nI_clamp (by omega), e]
                exact goOn
      refine bX10_ringsOf_5 (fun h => ?_) (fun _ => bX10_ringsOf_14 ?_)
      · rw [hn', nI_leI (by omega) (by omega)] at h; omega
      · exact walk n 0 x (by omega) (by decide) (g_cnt_le _ _) (fun z hz => by simp at hz) Iff.rfl
  exact bX10_ringsOf_0 (key n 0 (by omega))
theorem s_isSafe {n M : Nat} {nxU nxS : Nat → Nat → Option Nat} {I : Nat → Nat → Int32} {L : Nat → Int64} {Q : Option Value → (Nat → Nat → Int32) → (Nat → Int64) → Prop} (hn : I 3136 0 = nI n) (hn8 : n ≤ 8) (hM : M < 2 ^ 31) (hR : mRg I nxU nxS n) (hnx : ∀ w u v, g_FL nxU nxS M w u = some v → v < n)
    (K : Q (some (.int (i_b (g_safe nxU nxS n M)))) I L) : XS mX10_isSafe 0 [(0, .ref 49), (1, .int (nI M))] [] I L Q := by
  have hn' : I 3136 0 = nI n := hn
  have key : ∀ k w b, w + k = n → (b = true ↔ ∀ x, x < w → g_rm nxU nxS n M x = 0) → XS mX10_isSafe 4 [(0, .ref 49), (1, .int (nI M)), (2, .int (i_b b)), (3, .int (nI w))] [] I L Q := by
    intro k
    induction k with
    | zero =>
      intro w b hw h
      refine bX10_isSafe_4 (fun _ => bX10_isSafe_37 (i_b01 b) ?_) (fun h => ?_)
      · have : g_safe nxU nxS n M = b := by
          rw [Bool.eq_iff_iff, g_safe_iff, h]
          constructor
          · exact fun q x hx => q x (by omega)
          · exact fun q x hx => q x (by omega)
        rw [this] at K; exact K
      · rw [hn', nI_leI (by omega) (by omega)] at h; omega
    | succ k ih =>
      intro w b hw h
      refine bX10_isSafe_4 (fun h => ?_) (fun _ => bX10_isSafe_12 (fun hb => bX10_isSafe_29 (bX10_isSafe_30 ?_)) (fun hb => bX10_isSafe_16 (s_ringsOf hn hn8 (by omega) hM hR (hnx w) (bX10_isSafe_22 (fun h0 => bX10_isSafe_29 (bX10_isSafe_30 ?_)) (fun h0 => bX10_isSafe_25 (bX10_isSafe_30 ?_))))))
      · rw [hn', nI_leI (by omega) (by omega)] at h; omega
      · rw [i_b0] at hb
        rw [nI_1]
        refine ih (w + 1) false (by omega) ⟨fun q => (by cases q), fun q => ?_⟩
        have := h.mpr (fun x hx => q x (by omega))
        rw [hb] at this; cases this
      · rw [nI_1]
        refine ih (w + 1) false (by omega) ⟨fun q => (by cases q), fun q => ?_⟩
        exact absurd (by rw [q w (by omega)]; rfl) h0
      · have hr := g_rm_lt (nxU := nxU) (nxS := nxS) (n := n) (M := M) (w := w) hn8
        have h0' := (i_eq _ 0 rfl rfl (by omega) (by omega)).mp h0
        rw [i_b0] at hb
        have hb' : b = true := by simpa using hb
        rw [nI_1]
        refine ih (w + 1) true (by omega) ⟨fun _ x hx => ?_, fun _ => rfl⟩
        by_cases hxw : x = w
        · subst hxw; exact h0'
        · exact h.mp hb' x (by omega)
  exact bX10_isSafe_0 (key n 0 true (by omega) ⟨fun _ x hx => by omega, fun _ => rfl⟩)
theorem s_behind {n U : Nat} {seen : Nat → Nat} {I : Nat → Nat → Int32} {L : Nat → Int64} {Q : Option Value → (Nat → Nat → Int32) → (Nat → Int64) → Prop} (hn : I 3136 0 = nI n) (hn8 : n ≤ 8) (hU : I 3392 28 = nI U) (hU2 : U < 2 ^ 31) (hseen : ∀ u, u < n → I 3392 (29 + u) = nI (seen u) ∧ seen u < 2 ^ 31) (K : Q (some (.int (nI (g_bh n U seen)))) I L) : XS mX10_behind 0 [(0, .ref 49)] [] I L Q := by
  have hn' : I 3136 0 = nI n := hn
  have h29 : ∀ u, (29 : Int32) + nI u = nI (29 + u) := fun u => nI_add 29 u
  have key : ∀ k x, x + k = n → XS mX10_behind 4 [(0, .ref 49), (1, .int (nI (g_mk (fun u => decide (seen u ≠ U)) x))), (2, .int (nI x))] [] I L Q := by
    intro k
    induction k with
    | zero =>
      intro x hx
      have : x = n := by omega
      subst this
      exact bX10_behind_4 (fun _ => bX10_behind_47 K) (fun h => absurd (by rw [hn']; exact (nI_leI (by omega) (by omega)).mpr (Nat.le_refl _)) h)
    | succ k ih =>
      intro x hx
      have hs := hseen x (by omega)
      have e1 : I 3392 (29 + x) = nI (seen x) := hs.1
      have e2 : I 3392 28 = nI U := hU
      have ih' := ih (x + 1) (by omega)
      rw [g_mk_succ] at ih'
      refine bX10_behind_4 (fun h => ?_) (fun _ => bX10_behind_12 (i_vp _ (h29 x) (by omega) (by decide)) (fun h => bX10_behind_38 (bX10_behind_39 ?_)) (fun h => bX10_behind_32 (bX10_behind_39 ?_)))
      · rw [hn', nI_leI (by omega) (by omega)] at h; omega
      · rw [h29, nI_clamp (by omega), e1, e2, nI_eq (by omega) (by omega)] at h
        rw [nI_1, show (0 : Int32) = nI 0 from rfl, i_or, Nat.or_zero]
        rw [if_neg (by simp [h])] at ih'
        exact ih'
      · rw [h29, nI_clamp (by omega), e1, e2, nI_eq (by omega) (by omega)] at h
        rw [nI_1, i_1shl (by omega), i_or]
        rw [if_pos (by simp [h])] at ih'
        exact ih'
  exact bX10_behind_0 (key n 0 (by omega))
