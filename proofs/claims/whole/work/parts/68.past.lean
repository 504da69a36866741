/-! ===== what was, kept ===== -/
theorem c_pkeep {a ah : Nat} {v1 v2 v3 v4 : Int32} {I : Nat → Nat → Int32} {L : Nat → Int64} {Q : Option Value → (Nat → Nat → Int32) → (Nat → Int64) → Prop} (ha : a ≤ 8) (hh : ah < 8) (h1 : I 710 0 = nI a) (h2 : I 709 0 = nI ah)
    (K : ∀ I', Sm [768, 832, 896, 960, 709, 710] I I' → (I' 768 ah = v1 ∧ I' 832 ah = v2 ∧ I' 896 ah = v3 ∧ I' 960 ah = v4) → (∀ p, p ≠ ah → I' 768 p = I 768 p ∧ I' 832 p = I 832 p ∧ I' 896 p = I 896 p ∧ I' 960 p = I 960 p) → I' 709 0 = nI ((ah + 1) % 8) → I' 710 0 = nI (min (a + 1) 8) → Q none I' L) :
    XS mX3_keep 0 [(0, .ref 11), (1, .int v1), (2, .int v2), (3, .int v3), (4, .int v4)] [] I L Q := by
  have e : I 709 0 = nI ah := h2
  have e0 : I 710 0 = nI a := h1
  have k1 : (x_up I 768 ah v1) 709 0 = nI ah := by rw [x_up_ne (by decide)]; exact e
  have k2 : (x_up (x_up I 768 ah v1) 832 ah v2) 709 0 = nI ah := by rw [x_up_ne (by decide)]; exact k1
  have k3 : (x_up (x_up (x_up I 768 ah v1) 832 ah v2) 896 ah v3) 709 0 = nI ah := by rw [x_up_ne (by decide)]; exact k2
  have k4 : (x_up (x_up (x_up (x_up I 768 ah v1) 832 ah v2) 896 ah v3) 960 ah v4) 709 0 = nI ah := by rw [x_up_ne (by decide)]; exact k3
  have s1 : Sm [768, 832, 896, 960] I (x_up (x_up (x_up (x_up I 768 ah v1) 832 ah v2) 896 ah v3) 960 ah v4) := (((Sm.rf.up (by decide)).up (by decide)).up (by decide)).up (by decide)
  have a1 : (x_up (x_up (x_up (x_up I 768 ah v1) 832 ah v2) 896 ah v3) 960 ah v4) 768 ah = v1 ∧ (x_up (x_up (x_up (x_up I 768 ah v1) 832 ah v2) 896 ah v3) 960 ah v4) 832 ah = v2 ∧ (x_up (x_up (x_up (x_up I 768 ah v1) 832 ah v2) 896 ah v3) 960 ah v4) 896 ah = v3 ∧ (x_up (x_up (x_up (x_up I 768 ah v1) 832 ah v2) 896 ah v3) 960 ah v4) 960 ah = v4 :=
    ⟨by rw [x_up_ne (by decide), x_up_ne (by decide), x_up_ne (by decide), x_up_at], by rw [x_up_ne (by decide), x_up_ne (by decide), x_up_at], by rw [x_up_ne (by decide), x_up_at], x_up_at⟩
  have a2 : ∀ p, p ≠ ah → (x_up (x_up (x_up (x_up I 768 ah v1) 832 ah v2) 896 ah v3) 960 ah v4) 768 p = I 768 p ∧ (x_up (x_up (x_up (x_up I 768 ah v1) 832 ah v2) 896 ah v3) 960 ah v4) 832 p = I 832 p ∧ (x_up (x_up (x_up (x_up I 768 ah v1) 832 ah v2) 896 ah v3) 960 ah v4) 896 p = I 896 p ∧ (x_up (x_up (x_up (x_up I 768 ah v1) 832 ah v2) 896 ah v3) 960 ah v4) 960 p = I 960 p := fun p hp =>
    ⟨by rw [x_up_ne (by decide), x_up_ne (by decide), x_up_ne (by decide), x_up_off hp], by rw [x_up_ne (by decide), x_up_ne (by decide), x_up_off hp, x_up_ne (by decide)], by rw [x_up_ne (by decide), x_up_off hp, x_up_ne (by decide), x_up_ne (by decide)], by rw [x_up_off hp, x_up_ne (by decide), x_up_ne (by decide), x_up_ne (by decide)]⟩
  have hgo := @bX3_keep_0 I L Q v1 v2 v3 v4
  rw [e, nI_clamp (by omega), k1, nI_clamp (by omega), k2, nI_clamp (by omega), k3, nI_clamp (by omega), k4] at hgo
  revert hgo
  generalize (x_up (x_up (x_up (x_up I 768 ah v1) 832 ah v2) 896 ah v3) 960 ah v4) = I1 at s1 a1 a2 k4 ⊢
  intro hgo
  have hv : vp_in (nI ah) 8 := vp_in_nI hh (by decide)
  have fin : ∀ s : Int32, s = nI ((ah + 1) % 8) → XS mX3_keep 63 [(0, .ref 11)] [.int s, .ref 11] I1 L Q := by
    rintro s rfl
    have e1 : (x_up I1 709 0 (nI ((ah + 1) % 8))) 710 0 + (1 : Int32) = nI (a + 1) := by rw [x_up_ne (by decide), s1 710 (by decide), e0, nI_1]
    refine bX3_keep_63 ?_
    rw [e1]
    have e2 : (if (8 : Int32) < nI (a + 1) then (8 : Int32) else nI (a + 1)) = nI (min (a + 1) 8) := by
      by_cases q : 8 < a + 1
      · rw [if_pos (show (8 : Int32) < nI (a + 1) from (i_lt 8 (a + 1) rfl rfl (by decide) (by omega)).mpr q), Nat.min_eq_right (by omega)]; rfl
      · rw [if_neg (show ¬ (8 : Int32) < nI (a + 1) from fun z => q ((i_lt 8 (a + 1) rfl rfl (by decide) (by omega)).mp z)), Nat.min_eq_left (by omega)]
    rw [e2]
    refine K _ (((s1.mono (by decide)).up (by decide)).up (by decide)) ?_ (fun p hp => ?_) ?_ ?_
    · rw [x_up_ne (r := 710) (by decide), x_up_ne (r := 709) (by decide), x_up_ne (r := 710) (by decide), x_up_ne (r := 709) (by decide), x_up_ne (r := 710) (by decide), x_up_ne (r := 709) (by decide), x_up_ne (r := 710) (by decide), x_up_ne (r := 709) (by decide)]
      exact a1
    · rw [x_up_ne (r := 710) (by decide), x_up_ne (r := 709) (by decide), x_up_ne (r := 710) (by decide), x_up_ne (r := 709) (by decide), x_up_ne (r := 710) (by decide), x_up_ne (r := 709) (by decide), x_up_ne (r := 710) (by decide), x_up_ne (r := 709) (by decide)]
      exact a2 p hp
    · rw [x_up_ne (by decide), x_up_at]
    · rw [x_up_at]
  refine hgo hv hv hv hv (fun q => bX3_keep_62 (fin 0 ?_)) (fun q => bX3_keep_53 (fin _ ?_))
  · rw [nI_1] at q
    have := (i_le 8 (ah + 1) rfl rfl (by decide) (by omega)).mp q
    rw [show (ah + 1) % 8 = 0 by omega]; rfl
  · rw [nI_1] at q
    have : ¬ 8 ≤ ah + 1 := fun z => q ((i_le 8 (ah + 1) rfl rfl (by decide) (by omega)).mpr z)
    rw [k4, nI_1, show (ah + 1) % 8 = ah + 1 by omega]
theorem s_notes {a : Nat} {I : Nat → Nat → Int32} {L : Nat → Int64} {Q : Option Value → (Nat → Nat → Int32) → (Nat → Int64) → Prop} (ha : a ≤ 8) (h1 : I 3143 0 = nI a)
    (K : ∀ I', Sm [3456, 3143] I I' → I' 3143 0 = nI (min (a + 1) 8) → (∀ j, j < 37 → I' 3456 (37 * min a 7 + j) = I 3392 j) → (∀ j, j < 37 * min a 7 → I' 3456 j = I 3456 (j + 37 * (a - min a 7))) → Q none I' L) :
    XS mX10_notes 0 [(0, .ref 49)] [] I L Q := by
  have e0 : I 3143 0 = nI a := h1
  have copy : ∀ I1, Sm [3456, 3143] I I1 → I1 3143 0 = nI (min a 7) → (∀ j, j < 37 * min a 7 → I1 3456 j = I 3456 (j + 37 * (a - min a 7))) → XS mX10_notes 49 [(0, .ref 49)] [] I1 L Q := by
    intro I1 s1 hb hc
    have hm : min a 7 ≤ 7 := Nat.min_le_right _ _
    have hb' : I1 3143 0 = nI (min a 7) := hb
    have hsum : min (a + 1) 8 = min a 7 + 1 := by omega
    generalize hg : min a 7 = b at *
    have loop : ∀ k j I2, j + k = 37 → Sm [3456] I1 I2 → (∀ i, i < j → I2 3456 (37 * b + i) = I 3392 i) → (∀ i, i < 37 * b → I2 3456 i = I1 3456 i) → XS mX10_notes 51 [(0, .ref 49), (1, .int (nI j))] [] I2 L Q := by
      intro k
      induction k with
      | zero =>
        intro j I2 hj s2 d1 d2
        have ea : I2 3143 0 + (1 : Int32) = nI (b + 1) := by rw [s2 3143 (by decide), hb', nI_1]
        refine bX10_notes_51 (fun _ => bX10_notes_83 ?_) (fun q => absurd ((i_le 37 j rfl rfl (by decide) (by omega)).mpr (by omega)) q)
        rw [ea]
        refine K _ ((s1.tr (s2.mono (by decide))).up (by decide)) (by rw [x_up_at, hsum]) (fun i hi => ?_) (fun i hi => ?_)
        · rw [x_up_ne (by decide)]; exact d1 i (by omega)
        · rw [x_up_ne (by decide), d2 i hi]; exact hc i hi
      | succ k ih =>
        intro j I2 hj s2 d1 d2
        have ei : (37 : Int32) * I2 3143 0 + nI j = nI (37 * b + j) := by
          rw [s2 3143 (by decide), hb', show (37 : Int32) * nI b = nI (37 * b) from pk_mul 37 b, nI_add]
        have est : I2 3392 j = I 3392 j := by rw [s2 3392 (by decide), s1 3392 (by decide)]
        refine bX10_notes_51 (fun q => ?_) (fun _ => bX10_notes_57 (vp_in_nI (by omega) (by decide)) (by rw [ei]; exact vp_in_nI (by omega) (by decide)) ?_)
        · have := (i_le 37 j rfl rfl (by decide) (by omega)).mp q; omega
        · rw [ei, nI_clamp (by omega), nI_clamp (by omega), est, nI_1]
          refine ih (j + 1) _ (by omega) (s2.up (by decide)) (fun i hi => ?_) (fun i hi => ?_)
          · by_cases hij : i = j
            · subst hij; rw [x_up_at]
            · rw [x_up_off (by omega)]; exact d1 i (by omega)
          · rw [x_up_off (by omega)]; exact d2 i hi
    exact bX10_notes_49 (loop 37 0 I1 (by omega) Sm.rf (fun i hi => by omega) (fun _ _ => rfl))
  refine bX10_notes_0 (fun q => ?_) (fun q => bX10_notes_9 ?_)
  · rw [e0] at q
    have hne : a ≠ 8 := fun z => q (by rw [z]; rfl)
    have hmin : min a 7 = a := by omega
    exact copy I Sm.rf (by rw [hmin]; exact h1) (fun j _ => by rw [hmin, Nat.sub_self, Nat.mul_zero, Nat.add_zero])
  · rw [e0] at q
    have h8 : a = 8 := (i_eq a 8 rfl rfl (by omega) (by decide)).mp q
    subst h8
    have loop : ∀ k j I2, j + k = 259 → Sm [3456] I I2 → (∀ i, i < j → I2 3456 i = I 3456 (i + 37)) → (∀ i, j ≤ i → I2 3456 i = I 3456 i) → XS mX10_notes 11 [(0, .ref 49), (1, .int (nI j))] [] I2 L Q := by
      intro k
      induction k with
      | zero =>
        intro j I2 hj s2 d1 d2
        have ea : I2 3143 0 - (1 : Int32) = nI 7 := by rw [s2 3143 (by decide), e0]; rfl
        refine bX10_notes_11 (fun _ => bX10_notes_39 ?_) (fun z => absurd ((i_le 259 j rfl rfl (by decide) (by omega)).mpr (by omega)) z)
        rw [ea]
        refine copy _ ((s2.mono (by decide)).up (by decide)) x_up_at (fun i hi => ?_)
        rw [x_up_ne (by decide)]
        exact d1 i (by have : i < 37 * 7 := hi; omega)
      | succ k ih =>
        intro j I2 hj s2 d1 d2
        have ej : nI j + (37 : Int32) = nI (j + 37) := nI_add j 37
        have ev : I2 3456 (j + 37) = I 3456 (j + 37) := d2 (j + 37) (by omega)
        refine bX10_notes_11 (fun z => ?_) (fun _ => bX10_notes_18 (by rw [ej]; exact vp_in_nI (by omega) (by decide)) (vp_in_nI (by omega) (by decide)) ?_)
        · have := (i_le 259 j rfl rfl (by decide) (by omega)).mp z; omega
        · rw [ej, nI_clamp (by omega), nI_clamp (by omega), ev, nI_1]
          refine ih (j + 1) _ (by omega) (s2.up (by decide)) (fun i hi => ?_) (fun i hi => ?_)
          · by_cases hij : i = j
            · subst hij; rw [x_up_at]
            · rw [x_up_off hij]; exact d1 i (by omega)
          · rw [x_up_off (by omega)]; exact d2 i (by omega)
    exact loop 259 0 I (by omega) Sm.rf (fun i hi => by omega) (fun _ _ => rfl)
def g_psh (h0 : g_H) (H : Nat → g_H) : Nat → g_H
  | 0 => h0
  | i + 1 => H i
theorem rPa_push {n ln : Nat} {lo hi c0 c1 c0' c1' : Nat → Nat} {U U' : Nat} {seen seen' : Nat → Nat} {a ah : Nat} {H : Nat → g_H} {I I' : Nat → Nat → Int32} (ha : a ≤ 8) (hh : ah < 8) (hH : H 0 = (U, c0, c1, seen)) (hok : g_okS (n, ln, lo, hi, c0, c1, U, seen))
    (h7 : ∀ i, i < a → g_okS (g_hs (n, ln, lo, hi, c0, c1, U, seen) (H (i + 1))) ∧ cDl I n ln ((ah + 7 - i) % 8) (H i) (H (i + 1)) ∧ mSn I n ln (37 * (a - 1 - i)) (H (i + 1)))
    (e1 : I' 710 0 = nI (min (a + 1) 8)) (e2 : I' 709 0 = nI ((ah + 1) % 8)) (e3 : I' 3143 0 = nI (min (a + 1) 8)) (d : cDl I' n ln ah (U', c0', c1', seen') (U, c0, c1, seen))
    (hp : ∀ p, p ≠ ah → I' 768 p = I 768 p ∧ I' 832 p = I 832 p ∧ I' 896 p = I 896 p ∧ I' 960 p = I 960 p)
    (hs : mSn I' n ln (37 * min a 7) (U, c0, c1, seen)) (hm : ∀ j, j < 37 * min a 7 → I' 3456 j = I 3456 (j + 37 * (a - min a 7))) :
    rPa I' (n, ln, lo, hi, c0', c1', U', seen') := by
  have hln := hok.1.2.2.1
  have hn8 := hok.1.2.1
  refine ⟨min (a + 1) 8, (ah + 1) % 8, g_psh (U', c0', c1', seen') H, by omega, by omega, e1, e2, e3, rfl, fun i hia => ?_⟩
  cases i with
  | zero =>
    refine ⟨?_, ?_, ?_⟩
    · show g_okS (g_hs (n, ln, lo, hi, c0', c1', U', seen') (H 0))
      rw [hH]
      exact hok
    · show cDl I' n ln (((ah + 1) % 8 + 7 - 0) % 8) (U', c0', c1', seen') (H 0)
      rw [hH, show ((ah + 1) % 8 + 7 - 0) % 8 = ah by omega]
      exact d
    · show mSn I' n ln (37 * (min (a + 1) 8 - 1 - 0)) (H 0)
      rw [hH, show min (a + 1) 8 - 1 - 0 = min a 7 by omega]
      exact hs
  | succ i =>
    obtain ⟨g1, g2, g3⟩ := h7 i (by omega)
    refine ⟨g1, ?_, ?_⟩
    · show cDl I' n ln (((ah + 1) % 8 + 7 - (i + 1)) % 8) (H i) (H (i + 1))
      have hpos : ((ah + 1) % 8 + 7 - (i + 1)) % 8 = (ah + 7 - i) % 8 := by omega
      rw [hpos]
      obtain ⟨q1, q2, q3, q4⟩ := hp ((ah + 7 - i) % 8) (by omega)
      exact g2.ag q1 q2 q3 q4
    · show mSn I' n ln (37 * (min (a + 1) 8 - 1 - (i + 1))) (H (i + 1))
      obtain ⟨w1, w2, w3⟩ := g3
      have hb : 37 * (a - 1 - i) = 37 * (min (a + 1) 8 - 1 - (i + 1)) + 37 * (a - min a 7) := by omega
      generalize hB : 37 * (min (a + 1) 8 - 1 - (i + 1)) = B at hb ⊢
      have hB2 : B + 37 ≤ 37 * min a 7 := by omega
      refine ⟨fun l hl => ⟨?_, ?_⟩, ?_, fun u hu => ?_⟩
      · rw [hm (B + l) (by omega), show B + l + 37 * (a - min a 7) = 37 * (a - 1 - i) + l by omega]; exact (w1 l hl).1
      · rw [hm (B + 14 + l) (by omega), show B + 14 + l + 37 * (a - min a 7) = 37 * (a - 1 - i) + 14 + l by omega]; exact (w1 l hl).2
      · rw [hm (B + 28) (by omega), show B + 28 + 37 * (a - min a 7) = 37 * (a - 1 - i) + 28 by omega]; exact w2
      · rw [hm (B + 29 + u) (by omega), show B + 29 + u + 37 * (a - min a 7) = 37 * (a - 1 - i) + 29 + u by omega]; exact w3 u hu
/-- what the reference notes is what it holds -/
theorem mSn_of {n ln b : Nat} {lo hi c0 c1 : Nat → Nat} {U : Nat} {seen : Nat → Nat} {I I' : Nat → Nat → Int32} (hS : mSt I (n, ln, lo, hi, c0, c1, U, seen)) (hln : ln ≤ 14) (hn : n ≤ 8) (h : ∀ j, j < 37 → I' 3456 (b + j) = I 3392 j) : mSn I' n ln b (U, c0, c1, seen) := by
  obtain ⟨m1, m2, m3, m4, m5⟩ := hS
  refine ⟨fun l hl => ⟨?_, ?_⟩, ?_, fun u hu => ?_⟩
  · have := m2 l hl
    rw [Nat.mul_zero, Nat.zero_add] at this
    rw [h l (by omega)]; exact this
  · have := m3 l hl
    rw [Nat.mul_one] at this
    rw [Nat.add_assoc, h (14 + l) (by omega)]; exact this
  · rw [h 28 (by omega)]; exact m4
  · rw [Nat.add_assoc, h (29 + u) (by omega)]; exact m5 u hu
