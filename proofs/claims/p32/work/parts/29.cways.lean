/-! ===== the class's walks ===== -/
theorem c_rput {o a N ra rl k : Nat} {v : Int32} {I : Nat → Nat → Int32} {L : Nat → Int64} {Q : Option Value → (Nat → Nat → Int32) → (Nat → Int64) → Prop} (ho : x_SH[o]? = some (0, 6)) (hr : x_RF (64 * o + 0) = some a) (ha : x_SH[a]? = some (1, N)) (h1 : 64 * a = ra) (h2 : 64 * o + 1 = rl) (hne : rl ≠ ra) (hk : I rl 0 = nI k) (hkN : k < N) (hN : N < 2 ^ 31)
    (K : Q none (x_up (x_up I ra k v) rl 0 (nI (k + 1))) L) : XS mX6_put 0 [(0, .ref o), (1, .int v)] [] I L Q := by
  subst h1; subst h2
  refine bX6_put_0 ho hr ha (fun h => ?_) (fun _ => bX6_put_12 ho hr ha (i_vp k hk hkN hN) (bX6_put_32 ?_))
  · rw [hk] at h
    have := (i_le N k rfl rfl hN (by omega)).mp h
    omega
  · rw [hk, nI_clamp (by omega), x_up_ne hne, hk, nI_1]
    exact K
theorem c_walkSpares {n ln S u w l : Nat} {lo hi c : Nat → Nat} {I : Nat → Nat → Int32} {L : Nat → Int64} {Q : Option Value → (Nat → Nat → Int32) → (Nat → Int64) → Prop} (hG : cG I n ln lo hi) (hN : g_net n ln lo hi) (hC : cC I ln 0 c) (hc : g_cs ln c) (hS : S < 2 ^ 31) (hu : u < n) (hw : w < n) (hl : l < ln)
    (K1 : ∀ I' m W, Sm [1088, 1152, 1216] I I' → m < n → g_way (fun x => g_nxt (g_e ln lo hi c S) n x w) u w m W → (∀ j, j ≤ m → W j < n) → Q (some (.int (i_b (!g_ov ln lo hi m l W)))) I' L)
    (K0 : ∀ I', Sm [1088, 1152, 1216] I I' → ¬ g_rch (g_e ln lo hi c S) u w → Q (some (.int 0)) I' L) : XS mX5_walkSpares 0 [(0, .ref 16), (1, .int (nI u)), (2, .int (nI w)), (3, .int (nI S)), (4, .int (nI l))] [] I L Q := by
  have he := g_e_ok hN hc S
  have hn8 := hN.2.1
  have hln := hN.2.2.1
  have hwn := g_nxt_self he w
  refine bX5_walkSpares_0 (c_measure (kind := 0) hG hN hC hc (by omega) hS hw (fun I1 s1 hM => bX5_walkSpares_7 ?_))
  by_cases hr : g_rch (g_e ln lo hi c S) u w
  · obtain ⟨m, W, hm, hway, hWn⟩ := g_way_ex' he hu hr
    have key : ∀ k j, j + k = m → (∀ i, i < j → ¬ g_lk ln lo hi (W i) (W (i + 1)) = some l) → XS mX5_walkSpares 13 [(0, .ref 16), (2, .int (nI w)), (4, .int (nI l)), (5, .int (nI (W j))), (6, .int (nI j))] [] I1 L Q := by
      intro k
      induction k with
      | zero =>
        intro j hj hno
        have hjm : j = m := by omega
        have hWj := hWn j (by omega)
        have fin : XS mX5_walkSpares 66 [(2, .int (nI w)), (5, .int (nI (W j)))] [] I1 L Q := by
          refine bX5_walkSpares_66 (fun h => ?_) (fun _ => bX5_walkSpares_72 (bX5_walkSpares_77 (Or.inr rfl) ?_))
          · exact absurd (by rw [hjm, hway.2.1]) h
          · have := K1 I1 m W s1 hm hway hWn
            have hov : g_ov ln lo hi m l W = false := by
              rw [Bool.eq_false_iff, ne_eq, g_ov_iff]
              rintro ⟨i, h1, h2⟩
              exact hno i (by omega) h2
            rw [hov] at this
            exact this
        refine bX5_walkSpares_13 (fun _ => fin) (fun _ => bX5_walkSpares_20 (fun _ => fin) (fun h => ?_))
        exact absurd (by rw [hjm, hway.2.1]) h
      | succ k ih =>
        intro j hj hno
        have hWj := hWn j (by omega)
        have hWj1 := hWn (j + 1) (by omega)
        have hq := hway.2.2 j (by omega)
        dsimp only at hq
        obtain ⟨e1, e2, e3⟩ := hM (W j) hWj
        rw [hq] at e2 e3
        have e3' : I1 1216 (W j) = i_o (g_lk ln lo hi (W j) (W (j + 1))) := e3
        have hvp : vp_in (nI (W j)) 8 := vp_in_nI (by omega) (by decide)
        refine bX5_walkSpares_13 (fun h => ?_) (fun _ => bX5_walkSpares_20 (fun h => ?_) (fun _ => bX5_walkSpares_26 hvp (fun h => ?_) (fun _ => bX5_walkSpares_37 hvp (fun h => bX5_walkSpares_51 hvp ?_) (fun h => bX5_walkSpares_49 ?_))))
        · have := (i_le 8 j rfl rfl (by omega) (by omega)).mp h
          omega
        · rw [nI_eq (by omega) (by omega)] at h
          exact absurd h (g_way_ne (f := fun x => g_nxt (g_e ln lo hi c S) n x w) hwn hway (by omega))
        · rw [nI_clamp (by omega), e2] at h
          exact absurd h (i_m1ne (by omega))
        · rw [nI_clamp (by omega), e3'] at h
          rw [nI_clamp (by omega), e2, nI_1]
          refine ih (j + 1) (by omega) (fun i hi hx => ?_)
          by_cases hij : i = j
          · subst hij; rw [hx] at h; exact h rfl
          · exact hno i (by omega) hx
        · rw [nI_clamp (by omega), e3'] at h
          have hlk : g_lk ln lo hi (W j) (W (j + 1)) = some l := by
            cases hq2 : g_lk ln lo hi (W j) (W (j + 1)) with
            | none => rw [hq2] at h; exact absurd h.symm (i_m1ne (by omega))
            | some l' =>
              rw [hq2] at h
              have hl' := (g_lk_lt hN hq2).1
              have : l' = l := (nI_eq (by omega) (by omega)).mp h
              rw [this]
          have := K1 I1 m W s1 hm hway hWn
          rw [g_ov_iff.mpr ⟨j, by omega, hlk⟩] at this
          exact this
    have := key m 0 (by omega) (fun i hi => by omega)
    rw [hway.1] at this
    exact this
  · have hne : u ≠ w := by rintro rfl; exact hr (g_rch_self _ _)
    have hvp : vp_in (nI u) 8 := vp_in_nI (by omega) (by decide)
    refine bX5_walkSpares_13 (fun h => absurd h (by decide)) (fun _ => bX5_walkSpares_20 (fun h => ?_) (fun _ => bX5_walkSpares_26 hvp (fun _ => bX5_walkSpares_49 (K0 I1 s1 hr)) (fun h => ?_)))
    · rw [nI_eq (by omega) (by omega)] at h
      exact absurd h hne
    · rw [nI_clamp (by omega), (hM u hu).2.1, (g_nxt_none he hne).mpr hr] at h
      exact absurd rfl h
/-- what findWalk() leaves in the row at hand -/
def cW (I : Nat → Nat → Int32) (m : Nat) (W : Nat → Nat) : Prop := I 2049 0 = nI (m + 1) ∧ ∀ j, j ≤ m → I 2112 j = nI (W j)
theorem c_findWalk {n ln S u w : Nat} {lo hi c : Nat → Nat} {I : Nat → Nat → Int32} {L : Nat → Int64} {Q : Option Value → (Nat → Nat → Int32) → (Nat → Int64) → Prop} (hG : cG I n ln lo hi) (hN : g_net n ln lo hi) (hC : cC I ln 0 c) (hc : g_cs ln c) (hS : S < 2 ^ 31) (hu : u < n) (hw : w < n)
    (K1 : ∀ I' m W, Sm [1088, 1152, 1216, 2049, 2112] I I' → m < n → g_way (fun x => g_nxt (g_e ln lo hi c S) n x w) u w m W → (∀ j, j ≤ m → W j < n) → cW I' m W → Q (some (.int 1)) I' L)
    (K0 : ∀ I', Sm [1088, 1152, 1216, 2049, 2112] I I' → ¬ g_rch (g_e ln lo hi c S) u w → Q (some (.int 0)) I' L) : XS mX5_findWalk 0 [(0, .ref 16), (1, .int (nI u)), (2, .int (nI w)), (3, .int (nI S)), (4, .ref 32)] [] I L Q := by
  have he := g_e_ok hN hc S
  have hn8 := hN.2.1
  have hln := hN.2.2.1
  have hwn := g_nxt_self he w
  refine bX5_findWalk_0 (c_measure (kind := 0) hG hN hC hc (by omega) hS hw (fun I1 s1 hM => bX5_findWalk_7 sh_32 ?_))
  refine c_rput (o := 32) (a := 33) (N := 8) (ra := 2112) (rl := 2049) (k := 0) sh_32 rf_2048 sh_33 rfl rfl (by decide) (by rw [show (64 * 32 + 1) = 2049 from rfl, x_up_at]; rfl) (by decide) (by decide) (bX5_findWalk_19 ?_)
  have s2 : Sm [1088, 1152, 1216, 2049, 2112] I (x_up (x_up (x_up I1 (64 * 32 + 1) 0 0) 2112 0 (nI u)) 2049 0 (nI (0 + 1))) :=
    (((s1.mono (by simp)).up (by simp)).up (by simp)).up (by simp)
  have i1 : (x_up (x_up (x_up I1 (64 * 32 + 1) 0 0) 2112 0 (nI u)) 2049 0 (nI (0 + 1))) 2049 0 = nI (0 + 1) := by rw [x_up_at]
  have i2 : (x_up (x_up (x_up I1 (64 * 32 + 1) 0 0) 2112 0 (nI u)) 2049 0 (nI (0 + 1))) 2112 0 = nI u := by rw [x_up_ne (by decide), x_up_at]
  have i3 : (x_up (x_up (x_up I1 (64 * 32 + 1) 0 0) 2112 0 (nI u)) 2049 0 (nI (0 + 1))) 1152 = I1 1152 := by rw [x_up_ne (by decide), x_up_ne (by decide), x_up_ne (by decide)]
  generalize (x_up (x_up (x_up I1 (64 * 32 + 1) 0 0) 2112 0 (nI u)) 2049 0 (nI (0 + 1))) = I2 at s2 i1 i2 i3 ⊢
  by_cases hr : g_rch (g_e ln lo hi c S) u w
  · obtain ⟨m, W, hm, hway, hWn⟩ := g_way_ex' he hu hr
    have key : ∀ k j, j + k = m → ∀ I', Sm [1088, 1152, 1216, 2049, 2112] I I' → I' 1152 = I1 1152 → cW I' j W → XS mX5_findWalk 25 [(0, .ref 16), (2, .int (nI w)), (4, .ref 32), (5, .int (nI (W j))), (6, .int (nI j))] [] I' L Q := by
      intro k
      induction k with
      | zero =>
        intro j hj I' hs hA hW
        have hjm : j = m := by omega
        have fin : XS mX5_findWalk 73 [(2, .int (nI w)), (5, .int (nI (W j)))] [] I' L Q := by
          refine bX5_findWalk_73 (fun h => ?_) (fun _ => bX5_findWalk_79 (bX5_findWalk_84 (Or.inr rfl) ?_))
          · exact absurd (by rw [hjm, hway.2.1]) h
          · exact K1 I' m W hs hm hway hWn (by rw [← hjm]; exact hW)
        refine bX5_findWalk_25 (fun _ => fin) (fun _ => bX5_findWalk_32 (fun _ => fin) (fun h => ?_))
        exact absurd (by rw [hjm, hway.2.1]) h
      | succ k ih =>
        intro j hj I' hs hA hW
        have hWj := hWn j (by omega)
        have hWj1 := hWn (j + 1) (by omega)
        have hq := hway.2.2 j (by omega)
        dsimp only at hq
        obtain ⟨e1, e2, e3⟩ := hM (W j) hWj
        rw [hq] at e2
        have hvp : vp_in (nI (W j)) 8 := vp_in_nI (by omega) (by decide)
        refine bX5_findWalk_25 (fun h => ?_) (fun _ => bX5_findWalk_32 (fun h => ?_) (fun _ => bX5_findWalk_38 hvp (fun _ => bX5_findWalk_51 hvp sh_32 ?_) (fun h => ?_)))
        · have := (i_le 8 j rfl rfl (by omega) (by omega)).mp h
          omega
        · rw [nI_eq (by omega) (by omega)] at h
          exact absurd h (g_way_ne (f := fun x => g_nxt (g_e ln lo hi c S) n x w) hwn hway (by omega))
        · rw [nI_clamp (by omega), hA, e2]
          refine c_rput (o := 32) (a := 33) (N := 8) (ra := 2112) (rl := 2049) (k := j + 1) sh_32 rf_2048 sh_33 rfl rfl (by decide) hW.1 (by omega) (by decide) (bX5_findWalk_67 ?_)
          rw [nI_1]
          refine ih (j + 1) (by omega) _ ((hs.up (by simp)).up (by simp)) (by rw [x_up_ne (by decide), x_up_ne (by decide)]; exact hA) ⟨by rw [x_up_at], fun i hi => ?_⟩
          rw [x_up_ne (by decide)]
          by_cases hij : i = j + 1
          · subst hij; rw [x_up_at]; rfl
          · rw [x_up_off hij]; exact hW.2 i (by omega)
        · rw [nI_clamp (by omega), hA, e2] at h
          exact absurd h (i_m1ne (by omega))
    have := key m 0 (by omega) I2 s2 i3 ⟨i1, fun j hj => by
      have : j = 0 := by omega
      subst this
      rw [i2, hway.1]⟩
    rw [hway.1] at this
    exact this
  · have hne : u ≠ w := by rintro rfl; exact hr (g_rch_self _ _)
    have hvp : vp_in (nI u) 8 := vp_in_nI (by omega) (by decide)
    refine bX5_findWalk_25 (fun h => absurd h (by decide)) (fun _ => bX5_findWalk_32 (fun h => ?_) (fun _ => bX5_findWalk_38 hvp (fun h => ?_) (fun _ => bX5_findWalk_49 (K0 I2 s2 hr))))
    · rw [nI_eq (by omega) (by omega)] at h
      exact absurd h hne
    · rw [nI_clamp (by omega), i3, (hM u hu).2.1, (g_nxt_none he hne).mpr hr] at h
      exact absurd rfl h
