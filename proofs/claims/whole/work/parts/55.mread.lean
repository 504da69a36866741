/-! ===== the reference takes tokens, figures, names ===== -/
theorem s_takes {p z : Nat} {ft ok : Bool} {I : Nat → Nat → Int32} {L : Nat → Int64} {Q : Option Value → (Nat → Nat → Int32) → (Nat → Int64) → Prop} (hf : I 3162 0 = i_b ft) (hp : I 3160 0 = nI p) (hz : I 3161 0 = nI z) (K : ∀ I', Sm [3162, 3160] I I' → I' 3162 0 = i_b (ft || !ok) → I' 3160 0 = nI (if (ft || !ok) = true then p else p + z) → Q none I' L) : XS mX10_takes 0 [(0, .ref 49), (1, .int (i_b ok))] [] I L Q := by
  have hf' : I 3162 0 = i_b ft := hf
  have rest : ∀ b : Bool, b = (ft || !ok) → XS mX10_takes 17 [(0, .ref 49)] [.int (i_b b), .ref 49] I L Q := by
    intro b hb
    have s1 : Sm [3162, 3160] I (x_up I 3162 0 (i_b b)) := Sm.rf.up (by decide)
    have a1 : (x_up I 3162 0 (i_b b)) 3162 0 = i_b b := x_up_at
    have a2 : (x_up I 3162 0 (i_b b)) 3160 0 = nI p := by rw [x_up_ne (by decide)]; exact hp
    have a3 : (x_up I 3162 0 (i_b b)) 3161 0 = nI z := by rw [x_up_ne (by decide)]; exact hz
    have hgo := @bX10_takes_17 I L Q (i_b b) (i_b01 b)
    revert hgo
    generalize (x_up I 3162 0 (i_b b)) = I1 at s1 a1 a2 a3
    intro hgo
    refine hgo (fun h => bX10_takes_36 (bX10_takes_40 ?_)) (fun h => bX10_takes_32 (bX10_takes_40 ?_))
    · rw [a1, i_b0] at h
      rw [a2, a3, nI_add]
      refine K _ (s1.up (by decide)) (by rw [x_up_ne (by decide), a1, hb]) ?_
      rw [x_up_at, ← hb, h]; rfl
    · rw [a1, i_b0] at h
      have h' : b = true := by simpa using h
      rw [a2]
      refine K _ (s1.up (by decide)) (by rw [x_up_ne (by decide), a1, hb]) ?_
      rw [x_up_at, ← hb, h', if_pos rfl]
      rw [show nI p + (0 : Int32) = nI (p + 0) from nI_add p 0, Nat.add_zero]
  refine bX10_takes_0 (fun h => bX10_takes_12 ?_) (fun h => bX10_takes_8 (fun h2 => bX10_takes_16 ?_) (fun h2 => bX10_takes_12 ?_))
  · rw [hf', i_b0] at h
    exact rest true (by simp at h; simp [h])
  · rw [hf', i_b0] at h
    rw [i_b0] at h2
    exact rest false (by simp at h2; simp [h, h2])
  · rw [hf', i_b0] at h
    rw [i_b0] at h2
    exact rest true (by simp [h2])
theorem i_48 : ∀ x, x < 256 → ∀ a, a < 10 → (¬ nI x - 48 < nI a ↔ 48 + a ≤ x) ∧ (¬ nI a < nI x - 48 ↔ x ≤ 48 + a) := by decide +kernel
theorem s_figure0 {T : Nat → Nat} {len i a b : Nat} {I : Nat → Nat → Int32} {L : Nat → Int64} {Q : Option Value → (Nat → Nat → Int32) → (Nat → Int64) → Prop} (hT : mT I T len) (hi : i ≤ len) (he : I 3160 0 = nI i) (hf : I 3162 0 = 0) (ha : a < 10) (hb : b < 10)
    (K0 : ∀ I' r, Sm [3160, 3161, 3162] I I' → g_nu T len i a b = none → I' 3162 0 = 1 → I' 3160 0 = nI (g_P T len i) → Q (some (.int r)) I' L)
    (K1 : ∀ I' y, Sm [3160, 3161, 3162] I I' → g_nu T len i a b = some y → I' 3162 0 = 0 → I' 3160 0 = nI (g_Z T len i) → Q (some (.int (nI y))) I' L) :
    XS mX10_figure 0 [(0, .ref 49), (1, .int (nI a)), (2, .int (nI b))] [] I L Q := by
  have hl := hT.2.1
  have z := g_PZ (T := T) hi
  refine bX10_figure_0 (fun _ => bX10_figure_11 (s_looks hT hi he (fun I1 s1 hk => bX10_figure_15 ?_))) (fun h => absurd hf h)
  have hf1 : I1 3162 0 = i_b false := by rw [s1 _ (by decide)]; exact hf
  have hlong : I1 3161 0 = nI (g_Z T len i - g_P T len i) := hk.2
  have fault : ∀ v3 : Int32, g_nu T len i a b = none → XS mX10_figure 48 [(3, .int v3)] [.ref 49] I1 L Q := fun v3 hn => by
    refine bX10_figure_48 (bX10_figure_49 (s_takes (ok := false) hf1 hk.1 hk.2 (fun I2 s2 b1 b2 => bX10_figure_52 (K0 I2 v3 ((s1.mono (by decide)).tr (s2.mono (by decide))) hn b1 b2))))
  refine bX10_figure_18 (fun h => absurd hf1 h) (fun _ => bX10_figure_27 (fun h => fault _ ?_) (fun h => bX10_figure_35 ?_))
  · rw [hlong] at h
    unfold g_nu g_num
    rw [if_neg]
    intro q
    exact h (by rw [show g_Z T len i - g_P T len i = 1 by omega]; rfl)
  · rw [hlong] at h
    have h1 := (i_eq _ 1 rfl rfl (by omega) (by decide)).mp h
    have hx := hT.2.2 (g_P T len i) (by omega)
    have hc := i_48 (T (g_P T len i)) hx.2
    rw [if_pos (show g_P T len i < len by omega)]
    refine s_in (a := 0) (b := 0) (c := 0) (decide (48 + a ≤ T (g_P T len i) ∧ T (g_P T len i) ≤ 48 + b)) (by rw [decide_eq_true_eq, (hc a ha).1, (hc b hb).2]) ?_
    cases hd : decide (48 + a ≤ T (g_P T len i) ∧ T (g_P T len i) ≤ 48 + b) with
    | false =>
      rw [decide_eq_false_iff_not] at hd
      refine bX10_figure_41 (fun _ => fault _ ?_) (fun h => absurd rfl h)
      unfold g_nu g_num
      rw [if_neg (fun q => hd q.2)]
    | true =>
      rw [decide_eq_true_eq] at hd
      have hnu : g_nu T len i a b = some (T (g_P T len i) - 48) := by
        unfold g_nu g_num
        rw [if_pos ⟨by omega, hd⟩]
      refine bX10_figure_41 (fun h => absurd h (by decide)) (fun _ => bX10_figure_44 (bX10_figure_49 (s_takes (ok := true) hf1 hk.1 hk.2 (fun I2 s2 b1 b2 => bX10_figure_52 ?_))))
      rw [show nI (T (g_P T len i)) - (48 : Int32) = nI (T (g_P T len i) - 48) from i_sub (a := T (g_P T len i)) (b := 48) (by omega)]
      refine K1 I2 _ ((s1.mono (by decide)).tr (s2.mono (by decide))) hnu b1 ?_
      rw [b2, if_neg (by simp), show g_P T len i + (g_Z T len i - g_P T len i) = g_Z T len i by omega]
theorem s_figure1 {a b : Int32} {p z : Nat} {I : Nat → Nat → Int32} {L : Nat → Int64} {Q : Option Value → (Nat → Nat → Int32) → (Nat → Int64) → Prop} (hf : I 3162 0 = 1) (hp : I 3160 0 = nI p) (hz : I 3161 0 = nI z)
    (K : ∀ I', Sm [3160, 3161, 3162] I I' → I' 3162 0 = 1 → I' 3160 0 = nI p → I' 3161 0 = nI z → Q (some (.int (-1))) I' L) :
    XS mX10_figure 0 [(0, .ref 49), (1, .int a), (2, .int b)] [] I L Q := by
  have hf' : I 3162 0 = 1 := hf
  refine bX10_figure_0 (fun h => absurd (by rw [hf'] at h; exact h) (by decide)) (fun _ => bX10_figure_7 (bX10_figure_18 (fun _ => bX10_figure_48 (bX10_figure_49 (s_takes (ft := true) (ok := false) hf hp hz (fun I2 s2 b1 b2 => bX10_figure_52 (K I2 (s2.mono (by decide)) b1 b2 (by rw [s2 _ (by decide)]; exact hz)))))) (fun h => absurd (by rw [hf'] at h; exact h) (by decide))))
theorem s_isName {T : Nat → Nat} {len p e i : Nat} {I : Nat → Nat → Int32} {L : Nat → Int64} {Q : Option Value → (Nat → Nat → Int32) → (Nat → Int64) → Prop} (hi : i < 2) (hT : mT I T len) (hpe : p ≤ e) (hel : e ≤ len) (hk : mTk I p e) (K : Q (some (.int (i_b (g_isw T p e i)))) I L) : XS mX10_isName 0 [(0, .ref 49), (1, .int (nI (wd i 0))), (2, .int (nI (wd i 1))), (3, .int (nI (wd i 2))), (4, .int (nI (wd i 3))), (5, .int (nI (wd i 4)))] [] I L Q := by
  have hl := hT.2.1
  have hw := wl_le i hi
  have hr : I 3160 0 = nI p := hk.1
  have hz : I 3161 0 = nI (e - p) := hk.2
  have no : g_isw T p e i = false → XS mX10_isName 117 [] [] I L Q := fun h => by
    rw [h] at K; exact bX10_isName_117 (bX10_isName_118 (Or.inl rfl) K)
  have yes : g_isw T p e i = true → XS mX10_isName 113 [] [] I L Q := fun h => by
    rw [h] at K; exact bX10_isName_113 (bX10_isName_118 (Or.inr rfl) K)
  have no2 : g_isw T p e i = false → XS mX10_isName 68 [(0, .ref 49), (4, .int (nI (wd i 3))), (5, .int (nI (wd i 4)))] [] I L Q := fun h => bX10_isName_68 (bX10_isName_69 (fun _ => no h) (fun q => absurd rfl q))
  have wd0 : ∀ j, j < 5 → wd i j < 256 := wd_lt i hi
  have hx : ∀ j, e = p + wl i → j < wl i → I 4096 (p + j) = nI (T (p + j)) ∧ T (p + j) < 256 := fun j h1 h2 => hT.2.2 (p + j) (by omega)
  have hadd : ∀ j, I 3160 0 + nI j = nI (p + j) := fun j => by rw [hr, nI_add]
  have main : ∀ w, w = wl i → XS mX10_isName 10 [(0, .ref 49), (1, .int (nI (wd i 0))), (2, .int (nI (wd i 1))), (3, .int (nI (wd i 2))), (4, .int (nI (wd i 3))), (5, .int (nI (wd i 4)))] [.int (nI w)] I L Q := by
    intro w hwe
    have w4 : 4 ≤ wl i := by
      have : ∀ i, i < 2 → 4 ≤ wl i := by decide
      exact this i hi
    refine bX10_isName_10 (fun h => no2 ?_) (fun h => ?_)
    · rw [hz, nI_eq (by omega) (by omega)] at h
      exact decide_eq_false (fun q => h (by omega))
    · rw [hz, nI_eq (by omega) (by omega)] at h
      have he : e = p + wl i := by omega
      have x0 := hx 0 he (by omega)
      have x1 := hx 1 he (by omega)
      have x2 := hx 2 he (by omega)
      have x3 := hx 3 he (by omega)
      have d0 := wd0 0 (by omega)
      have d1 := wd0 1 (by omega)
      have d2 := wd0 2 (by omega)
      have d3 := wd0 3 (by omega)
      have d4 := wd0 4 (by omega)
      have r0 : I 4096 p = nI (T p) := x0.1
      have h1e : I 3160 0 + (1 : Int32) = nI (p + 1) := hadd 1
      have h2e : I 3160 0 + (2 : Int32) = nI (p + 2) := hadd 2
      have h3e : I 3160 0 + (3 : Int32) = nI (p + 3) := hadd 3
      have h4e : I 3160 0 + (4 : Int32) = nI (p + 4) := hadd 4
      have hT0 : T p < 256 := x0.2
      refine bX10_isName_21 (by rw [hr]; exact vp_in_nI (by omega) (by decide)) (fun h0 => no2 ?_) (fun h0 => bX10_isName_34 (by rw [h1e]; exact vp_in_nI (by omega) (by decide)) (fun h1 => no2 ?_) (fun h1 => bX10_isName_49 (by rw [h2e]; exact vp_in_nI (by omega) (by decide)) (fun h2 => no2 ?_) (fun h2 => bX10_isName_64 (bX10_isName_69 (fun q => absurd q (by decide)) (fun _ => bX10_isName_76 (by rw [h3e]; exact vp_in_nI (by omega) (by decide)) (fun h3 => no ?_) (fun h3 => bX10_isName_92 (fun h5 => yes ?_) (fun h5 => ?_)))))))
      · rw [hr, nI_clamp (by omega), r0, nI_eq (by omega) (by omega)] at h0
        exact decide_eq_false (fun q => h0 (q.2 0 (by omega)))
      · rw [h1e, nI_clamp (by omega), x1.1, nI_eq (by omega) (by omega)] at h1
        exact decide_eq_false (fun q => h1 (q.2 1 (by omega)))
      · rw [h2e, nI_clamp (by omega), x2.1, nI_eq (by omega) (by omega)] at h2
        exact decide_eq_false (fun q => h2 (q.2 2 (by omega)))
      · rw [h3e, nI_clamp (by omega), x3.1, nI_eq (by omega) (by omega)] at h3
        exact decide_eq_false (fun q => h3 (q.2 3 (by omega)))
      all_goals
        rw [hr, nI_clamp (by omega), r0, nI_eq (by omega) (by omega)] at h0
        rw [h1e, nI_clamp (by omega), x1.1, nI_eq (by omega) (by omega)] at h1
        rw [h2e, nI_clamp (by omega), x2.1, nI_eq (by omega) (by omega)] at h2
        rw [h3e, nI_clamp (by omega), x3.1, nI_eq (by omega) (by omega)] at h3
        have four : ∀ j, j < 4 → T (p + j) = wd i j := fun j hj => by
          have hc : j = 0 ∨ j = 1 ∨ j = 2 ∨ j = 3 := by omega
          rcases hc with rfl | rfl | rfl | rfl
          · exact h0
          · exact h1
          · exact h2
          · exact h3
      · have h5' := (i_eq _ 0 rfl rfl (by omega) (by decide)).mp h5
        have hwl : wl i = 4 := by
          have : ∀ i, i < 2 → wd i 4 = 0 → wl i = 4 := by decide
          exact this i hi h5'
        exact decide_eq_true ⟨he, fun j hj => four j (by omega)⟩
      · have h5' : wd i 4 ≠ 0 := fun q => h5 (by rw [q]; rfl)
        have hwl : wl i = 5 := by
          have : ∀ i, i < 2 → wd i 4 ≠ 0 → wl i = 5 := by decide
          exact this i hi h5'
        have x4 := hx 4 he (by omega)
        refine bX10_isName_97 (by rw [h4e]; exact vp_in_nI (by omega) (by decide)) (fun h4 => no ?_) (fun h4 => yes ?_)
        · rw [h4e, nI_clamp (by omega), x4.1, nI_eq (by omega) (by omega)] at h4
          exact decide_eq_false (fun q => h4 (q.2 4 (by omega)))
        · rw [h4e, nI_clamp (by omega), x4.1, nI_eq (by omega) (by omega)] at h4
          refine decide_eq_true ⟨he, fun j hj => ?_⟩
          by_cases hj4 : j = 4
          · subst hj4; exact h4
          · exact four j (by omega)
  have d4 := wd0 4 (by omega)
  refine bX10_isName_0 (fun h => bX10_isName_9 (main 5 ?_)) (fun h => bX10_isName_5 (main 4 ?_))
  · have : ∀ i, i < 2 → wd i 4 ≠ 0 → 5 = wl i := by decide
    exact this i hi (fun q => h (by rw [q]; rfl))
  · have h' := (i_eq _ 0 rfl rfl (by omega) (by decide)).mp h
    have : ∀ i, i < 2 → wd i 4 = 0 → 4 = wl i := by decide
    exact this i hi h'
