/-! ===== the reference reads a clause of a link ===== -/
theorem s_linkPut {σ : g_St} {D : Bool} {u v c d e : Nat} {I0 I : Nat → Nat → Int32} {L : Nat → Int64} {Q : Option Value → (Nat → Nat → Int32) → (Nat → Int64) → Prop} (hok : g_okS σ) (hR : mRd I σ) (hS : D = true → mSt I σ) (s0 : Sm S_rd I0 I) (hf : I 3162 0 = 0) (he : I 3160 0 = nI e) (hD : I 3163 0 = i_b D) (hu : u < σ.1) (hv : v < σ.1) (huv : u ≠ v) (hg : g_lk σ.2.1 σ.2.2.1 σ.2.2.2.1 u v = none → σ.2.1 < 14)
    (K : ∀ I', Sm S_do I0 I' → (D = false → Sm S_rd I0 I') → I' 3162 0 = 0 → I' 3160 0 = nI e → mRd I' (g_ap σ (.inr (u, v, c, d))) → (D = true → mSt I' (g_ap σ (.inr (u, v, c, d))) ∧ mGone I0 I' false) → Q none I' L) :
    XS mX10_readsLink 129 [(0, .ref 49), (1, .int (nI u)), (2, .int (nI v)), (4, .int (nI c)), (5, .int (nI d))] [] I L Q := by
  obtain ⟨n, ln, lo, hi, c0, c1, U, seen⟩ := σ
  obtain ⟨hN, h0, h1, hU, hs⟩ := hok
  obtain ⟨r1, r2, r3⟩ := hR
  have hn8 := hN.2.1
  have hln := hN.2.2.1
  have hu' : u < n := hu
  have hv' : v < n := hv
  have hg' : g_lk ln lo hi u v = none → ln < 14 := hg
  have hD' : I 3163 0 = i_b D := hD
  have r2' : I 3165 0 = nI ln := r2
  -- the end, with cost and delay put
  have fin : ∀ I7 l, l < 14 → Sm S_do I0 I7 → (D = false → Sm S_rd I0 I7) → I7 3162 0 = 0 → I7 3160 0 = nI e → I7 3163 0 = i_b D → (∀ I8, Sm [3392] I7 I8 → (D = false → I8 = I7) → (D = true → I8 3392 l = nI c ∧ I8 3392 (14 + l) = nI d ∧ ∀ j, j ≠ l → j ≠ 14 + l → I8 3392 j = I7 3392 j) → Q none I8 L) → XS mX10_readsLink 287 [(0, .ref 49), (4, .int (nI c)), (5, .int (nI d)), (6, .int (nI l))] [] I7 L Q := by
    intro I7 l hl s7 s7' f7 e7 d7 KK
    have d7' : I7 3163 0 = i_b D := d7
    refine bX10_readsLink_287 (fun h => bX10_readsLink_317 (KK I7 Sm.rf (fun _ => rfl) (fun q => ?_))) (fun h => bX10_readsLink_294 (i_vp (0 + l) (nI_add 0 l) (by omega) (by decide)) (i_vp (14 + l) (nI_add 14 l) (by omega) (by decide)) (bX10_readsLink_317 ?_))
    · rw [d7', i_b0] at h
      rw [h] at q; cases q
    · rw [d7', i_b0] at h
      rw [i_cl (x := (0 : Int32) + nI l) (0 + l) (nI_add 0 l) (by omega), i_cl (x := (14 : Int32) + nI l) (14 + l) (nI_add 14 l) (by omega), Nat.zero_add]
      refine KK _ ((Sm.rf.up (by decide)).up (by decide)) (fun q => absurd q h) (fun _ => ⟨?_, ?_, fun j h1 h2 => ?_⟩)
      · rw [x_up_off (by omega), x_up_at]
      · rw [x_up_at]
      · rw [x_up_off h2, x_up_off h1]
  refine bX10_readsLink_129 (s_readLinkOf r2 r3 hN (by omega) (by omega) ?_)
  cases hlk : g_lk ln lo hi u v with
  | some l =>
    have hl := (g_lk_lt hN hlk).1
    have e1 : g_ap (n, ln, lo, hi, c0, c1, U, seen) (.inr (u, v, c, d)) = (n, ln, lo, hi, g_set c0 l c, g_set c1 l d, U, seen) := by
      unfold g_ap; dsimp only; rw [hlk]
    rw [e1] at K
    refine bX10_readsLink_135 (fun _ => ?_) (fun h => absurd h (i_m1ne (by omega)))
    refine fin I l (by omega) (s0.mono (by decide)) (fun _ => s0) hf he hD (fun I8 s8 g8 h8 => ?_)
    refine K I8 ((s0.mono (by decide)).tr (s8.mono (by decide))) (fun q => by rw [g8 q]; exact s0) (by rw [s8 _ (by decide)]; exact hf) (by rw [s8 _ (by decide)]; exact he) ⟨by rw [s8 _ (by decide)]; exact r1, by rw [s8 _ (by decide)]; exact r2, fun j hj => by rw [s8 _ (by decide), s8 _ (by decide)]; exact r3 j hj⟩ (fun q => ?_)
    obtain ⟨m1, m2, m3, m4, m5⟩ := hS q
    obtain ⟨k1, k2, k3⟩ := h8 q
    have hx : ∀ j, j < ln → I 3392 j = nI (c0 j) := fun j hj => by have := m2 j hj; rw [Nat.mul_zero, Nat.zero_add] at this; exact this
    have hy : ∀ j, j < ln → I 3392 (14 + j) = nI (c1 j) := fun j hj => by have := m3 j hj; rw [Nat.mul_one] at this; exact this
    refine ⟨⟨m1.sm s8 (by decide) (by decide) (by decide) (by decide), fun j hj => ?_, fun j hj => ?_, ?_, fun w hw => ?_⟩, ?_, ?_, ?_⟩
    · rw [Nat.mul_zero, Nat.zero_add]
      by_cases hjl : j = l
      · subst hjl; rw [g_set_at]; exact k1
      · rw [g_set_off hjl, k3 j hjl (by omega)]; exact hx j hj
    · rw [Nat.mul_one]
      by_cases hjl : j = l
      · subst hjl; rw [g_set_at]; exact k2
      · rw [g_set_off hjl, k3 (14 + j) (by omega) (by omega)]; exact hy j hj
    · rw [k3 28 (by omega) (by omega)]; exact m4
    · rw [k3 (29 + w) (by omega) (by omega)]; exact m5 w hw
    · rw [s8 _ (by decide), s0 _ (by decide)]; rfl
    · rw [s8 _ (by decide), s0 _ (by decide)]; rfl
    · rw [s8 _ (by decide), s0 _ (by decide)]; rfl
  | none =>
    have hl14 := hg' hlk
    have e1 : g_ap (n, ln, lo, hi, c0, c1, U, seen) (.inr (u, v, c, d)) = (n, ln + 1, g_set lo ln (min u v), g_set hi ln (max u v), g_set c0 ln c, g_set c1 ln d, U ||| 2 ^ ln, fun w => seen w ||| 2 ^ ln) := by
      unfold g_ap; dsimp only; rw [hlk]
    rw [e1] at K
    -- both ends put, the number of links one more
    have s6 : Sm S_rd I0 (x_up (x_up (x_up I 4160 ln (nI (min u v))) 4224 ln (nI (max u v))) 3165 0 (nI (ln + 1))) := ((s0.up (by decide)).up (by decide)).up (by decide)
    have a1 : (x_up (x_up (x_up I 4160 ln (nI (min u v))) 4224 ln (nI (max u v))) 3165 0 (nI (ln + 1))) 4160 ln = nI (min u v) := by rw [x_up_ne (by decide), x_up_ne (by decide), x_up_at]
    have a2 : (x_up (x_up (x_up I 4160 ln (nI (min u v))) 4224 ln (nI (max u v))) 3165 0 (nI (ln + 1))) 4224 ln = nI (max u v) := by rw [x_up_ne (by decide), x_up_at]
    have a3 : ∀ j, j ≠ ln → (x_up (x_up (x_up I 4160 ln (nI (min u v))) 4224 ln (nI (max u v))) 3165 0 (nI (ln + 1))) 4160 j = I 4160 j ∧ (x_up (x_up (x_up I 4160 ln (nI (min u v))) 4224 ln (nI (max u v))) 3165 0 (nI (ln + 1))) 4224 j = I 4224 j := fun j hj => ⟨by rw [x_up_ne (by decide), x_up_ne (by decide), x_up_off hj], by rw [x_up_ne (by decide), x_up_off hj, x_up_ne (by decide)]⟩
    have a4 : (x_up (x_up (x_up I 4160 ln (nI (min u v))) 4224 ln (nI (max u v))) 3165 0 (nI (ln + 1))) 3165 0 = nI (ln + 1) := x_up_at
    have a5 : ∀ r, r ≠ 4160 → r ≠ 4224 → r ≠ 3165 → (x_up (x_up (x_up I 4160 ln (nI (min u v))) 4224 ln (nI (max u v))) 3165 0 (nI (ln + 1))) r = I r := fun r h1 h2 h3 => by rw [x_up_ne h3, x_up_ne h2, x_up_ne h1]
    have hgo := @bX10_readsLink_182 (x_up I 4160 ln (nI (min u v))) L Q (nI c) (nI d) (nI ln) (nI ln) (nI (max u v))
    have r2u : (x_up (x_up I 4160 ln (nI (min u v))) 4224 (nI ln).toNatClampNeg (nI (max u v))) 3165 0 + (1 : Int32) = nI (ln + 1) := by rw [x_up_ne (by decide), x_up_ne (by decide), r2', nI_1]
    rw [r2u, nI_clamp (by omega)] at hgo
    revert hgo
    generalize (x_up (x_up (x_up I 4160 ln (nI (min u v))) 4224 ln (nI (max u v))) 3165 0 (nI (ln + 1))) = I6 at s6 a1 a2 a3 a4 a5 ⊢
    intro hgo
    have f6 : I6 3162 0 = 0 := by rw [a5 _ (by decide) (by decide) (by decide)]; exact hf
    have e6 : I6 3160 0 = nI e := by rw [a5 _ (by decide) (by decide) (by decide)]; exact he
    have d6 : I6 3163 0 = i_b D := by rw [a5 _ (by decide) (by decide) (by decide)]; exact hD
    have rd6 : ∀ I', (∀ r, r ∈ [3164, 3165, 4160, 4224] → I' r = I6 r) → mRd I' (n, ln + 1, g_set lo ln (min u v), g_set hi ln (max u v), g_set c0 ln c, g_set c1 ln d, U ||| 2 ^ ln, fun w => seen w ||| 2 ^ ln) := fun I' hI => by
      refine ⟨by rw [hI _ (by decide), a5 _ (by decide) (by decide) (by decide)]; exact r1, by rw [hI _ (by decide)]; exact a4, fun j hj => ?_⟩
      rw [hI _ (by decide), hI _ (by decide)]
      by_cases hjl : j = ln
      · subst hjl; rw [g_set_at, g_set_at]; exact ⟨a1, a2⟩
      · rw [g_set_off hjl, g_set_off hjl]
        have := a3 j hjl
        exact ⟨this.1.trans (r3 j (by omega)).1, this.2.trans (r3 j (by omega)).2⟩
    have go182 : XS mX10_readsLink 182 [(0, .ref 49), (4, .int (nI c)), (5, .int (nI d)), (6, .int (nI ln))] [.int (nI (max u v)), .int (nI ln), .ref 66] (x_up I 4160 ln (nI (min u v))) L Q := by
      refine hgo (vp_in_nI hl14 (by decide)) (fun h => ?_) (fun h => ?_)
      · rw [show I6 3163 0 = i_b D from d6, i_b0] at h
        refine fin I6 ln hl14 (s6.mono (by decide)) (fun _ => s6) f6 e6 d6 (fun I8 s8 g8 h8 => ?_)
        rw [g8 h]
        exact K I6 (s6.mono (by decide)) (fun _ => s6) f6 e6 (rd6 I6 (fun _ _ => rfl)) (fun q => by rw [h] at q; cases q)
      · rw [show I6 3163 0 = i_b D from d6, i_b0] at h
        have hDt : D = true := by simpa using h
        obtain ⟨m1, m2, m3, m4, m5⟩ := hS hDt
        have hx : ∀ j, j < ln → I6 3392 j = nI (c0 j) := fun j hj => by have := m2 j hj; rw [Nat.mul_zero, Nat.zero_add] at this; rw [a5 _ (by decide) (by decide) (by decide)]; exact this
        have hy : ∀ j, j < ln → I6 3392 (14 + j) = nI (c1 j) := fun j hj => by have := m3 j hj; rw [Nat.mul_one] at this; rw [a5 _ (by decide) (by decide) (by decide)]; exact this
        have hz : I6 3392 28 = nI U := by rw [a5 _ (by decide) (by decide) (by decide)]; exact m4
        have hw : ∀ w, w < n → I6 3392 (29 + w) = nI (seen w) := fun w hw => by rw [a5 _ (by decide) (by decide) (by decide)]; exact m5 w hw
        obtain ⟨p1, p2, p3⟩ := m1
        have p1' : I6 3136 0 = nI n := by rw [a5 _ (by decide) (by decide) (by decide)]; exact p1
        have p2' : I6 3137 0 = nI ln := by rw [a5 _ (by decide) (by decide) (by decide)]; exact p2
        refine bX10_readsLink_200 (vp_in_nI hl14 (by decide)) (vp_in_nI hl14 (by decide)) (vp_in_nI hl14 (by decide)) (vp_in_nI hl14 (by decide)) ?_
        have q1 : (x_up I6 3200 ln (nI (min u v))) 4224 ln = nI (max u v) := by rw [x_up_ne (by decide)]; exact a2
        have q2 : (x_up (x_up I6 3200 ln (nI (min u v))) 3264 ln (nI (max u v))) 3137 0 + (1 : Int32) = nI (ln + 1) := by rw [x_up_ne (by decide), x_up_ne (by decide), p2', nI_1]
        have q3 : (x_up (x_up (x_up I6 3200 ln (nI (min u v))) 3264 ln (nI (max u v))) 3137 0 (nI (ln + 1))) 3392 28 = nI U := by rw [x_up_ne (by decide), x_up_ne (by decide), x_up_ne (by decide)]; exact hz
        rw [nI_clamp (by omega), show I6 4160 ln = nI (min u v) from a1, q1, q2, q3, i_1shl (by omega), i_or]
        have sA : Sm [3200, 3264, 3137, 3392] I6 (x_up (x_up (x_up (x_up I6 3200 ln (nI (min u v))) 3264 ln (nI (max u v))) 3137 0 (nI (ln + 1))) 3392 28 (nI (U ||| 2 ^ ln))) := (((Sm.rf.up (by decide)).up (by decide)).up (by decide)).up (by decide)
        have w1 : ∀ j, j < ln + 1 → (x_up (x_up (x_up (x_up I6 3200 ln (nI (min u v))) 3264 ln (nI (max u v))) 3137 0 (nI (ln + 1))) 3392 28 (nI (U ||| 2 ^ ln))) 3200 j = nI (g_set lo ln (min u v) j) ∧ (x_up (x_up (x_up (x_up I6 3200 ln (nI (min u v))) 3264 ln (nI (max u v))) 3137 0 (nI (ln + 1))) 3392 28 (nI (U ||| 2 ^ ln))) 3264 j = nI (g_set hi ln (max u v) j) := fun j hj => by
          rw [x_up_ne (by decide), x_up_ne (by decide), x_up_ne (by decide), x_up_ne (r := 3392) (by decide), x_up_ne (r := 3137) (by decide)]
          by_cases hjl : j = ln
          · subst hjl; rw [x_up_at, x_up_at, g_set_at, g_set_at]; exact ⟨rfl, rfl⟩
          · rw [x_up_off hjl, x_up_off hjl, g_set_off hjl, g_set_off hjl, x_up_ne (by decide), a5 _ (by decide) (by decide) (by decide), a5 _ (by decide) (by decide) (by decide)]
            exact p3 j (by omega)
        have w2 : (x_up (x_up (x_up (x_up I6 3200 ln (nI (min u v))) 3264 ln (nI (max u v))) 3137 0 (nI (ln + 1))) 3392 28 (nI (U ||| 2 ^ ln))) 3137 0 = nI (ln + 1) := by rw [x_up_ne (by decide), x_up_at]
        have w3 : (x_up (x_up (x_up (x_up I6 3200 ln (nI (min u v))) 3264 ln (nI (max u v))) 3137 0 (nI (ln + 1))) 3392 28 (nI (U ||| 2 ^ ln))) 3392 28 = nI (U ||| 2 ^ ln) := x_up_at
        have w4 : ∀ j, j ≠ 28 → (x_up (x_up (x_up (x_up I6 3200 ln (nI (min u v))) 3264 ln (nI (max u v))) 3137 0 (nI (ln + 1))) 3392 28 (nI (U ||| 2 ^ ln))) 3392 j = I6 3392 j := fun j hj => by rw [x_up_off hj, x_up_ne (by decide), x_up_ne (by decide), x_up_ne (by decide)]
        generalize (x_up (x_up (x_up (x_up I6 3200 ln (nI (min u v))) 3264 ln (nI (max u v))) 3137 0 (nI (ln + 1))) 3392 28 (nI (U ||| 2 ^ ln))) = IA at sA w1 w2 w3 w4 ⊢
        have loop : ∀ k w IB, w + k = n → Sm [3392] IA IB → (∀ j, j < 29 → IB 3392 j = IA 3392 j) → (∀ x, x < w → IB 3392 (29 + x) = nI (seen x ||| 2 ^ ln)) → (∀ x, w ≤ x → x < n → IB 3392 (29 + x) = nI (seen x)) → XS mX10_readsLink 255 [(0, .ref 49), (4, .int (nI c)), (5, .int (nI d)), (6, .int (nI ln)), (7, .int (nI w))] [] IB L Q := by
          intro k
          induction k with
          | zero =>
            intro w IB hwk sB b1 b2 b3
            refine bX10_readsLink_255 (fun _ => ?_) (fun h2 => ?_)
            · have s6B : Sm [3200, 3264, 3137, 3392] I6 IB := sA.tr (sB.mono (by decide))
              have sDB : Sm S_do I0 IB := (s6.mono (by decide)).tr (s6B.mono (by decide))
              refine fin IB ln hl14 sDB (fun q => by rw [hDt] at q; cases q) (by rw [s6B _ (by decide)]; exact f6) (by rw [s6B _ (by decide)]; exact e6) (by rw [s6B _ (by decide)]; exact d6) (fun I8 s8 g8 h8 => ?_)
              have s68 : Sm [3200, 3264, 3137, 3392] I6 I8 := s6B.tr (s8.mono (by decide))
              obtain ⟨k1, k2, k3⟩ := h8 hDt
              refine K I8 (sDB.tr (s8.mono (by decide))) (fun q => by rw [hDt] at q; cases q) (by rw [s68 _ (by decide)]; exact f6) (by rw [s68 _ (by decide)]; exact e6) (rd6 I8 (fun r hr => s68 r (by simp only [List.mem_cons, List.not_mem_nil, or_false] at hr ⊢; rcases hr with rfl | rfl | rfl | rfl <;> decide))) (fun _ => ⟨⟨⟨?_, ?_, fun j hj => ?_⟩, fun j hj => ?_, fun j hj => ?_, ?_, fun x hx => ?_⟩, ?_, ?_, ?_⟩)
              · rw [s68 _ (by decide)]; exact p1'
              · rw [s8 _ (by decide), sB _ (by decide)]; exact w2
              · rw [s8 _ (by decide), sB _ (by decide), s8 _ (by decide), sB _ (by decide)]; exact w1 j hj
              · rw [Nat.mul_zero, Nat.zero_add]
                by_cases hjl : j = ln
                · subst hjl; rw [g_set_at]; exact k1
                · rw [g_set_off hjl, k3 j hjl (by omega), b1 j (by omega), show IA 3392 j = I6 3392 j from w4 j (by omega)]; exact hx j (by omega)
              · rw [Nat.mul_one]
                by_cases hjl : j = ln
                · subst hjl; rw [g_set_at]; exact k2
                · rw [g_set_off hjl, k3 (14 + j) (by omega) (by omega), b1 (14 + j) (by omega), show IA 3392 (14 + j) = I6 3392 (14 + j) from w4 (14 + j) (by omega)]; exact hy j (by omega)
              · rw [k3 28 (by omega) (by omega), b1 28 (by omega)]; exact w3
              · rw [k3 (29 + x) (by omega) (by omega)]; exact b2 x (by have : x < n := hx; omega)
              · rw [s68 _ (by decide), s6 _ (by decide)]; rfl
              · rw [s68 _ (by decide), s6 _ (by decide)]; rfl
              · rw [s68 _ (by decide), s6 _ (by decide)]; rfl
            · rw [sB 3136 (by decide), sA 3136 (by decide), p1', nI_leI (by omega) (by omega)] at h2; omega
          | succ k ih =>
            intro w IB hwk sB b1 b2 b3
            refine bX10_readsLink_255 (fun h2 => ?_) (fun _ => bX10_readsLink_264 (i_vp (29 + w) (nI_add 29 w) (by omega) (by decide)) (i_vp (29 + w) (nI_add 29 w) (by omega) (by decide)) ?_)
            · rw [sB 3136 (by decide), sA 3136 (by decide), p1', nI_leI (by omega) (by omega)] at h2; omega
            · rw [i_cl (x := (29 : Int32) + nI w) (29 + w) (nI_add 29 w) (by omega), show IB 3392 (29 + w) = nI (seen w) from b3 w (Nat.le_refl _) (by omega), i_1shl (by omega), i_or, nI_1]
              refine ih (w + 1) _ (by omega) (sB.up (by decide)) (fun j hj => by rw [x_up_off (by omega)]; exact b1 j hj) (fun x hx => ?_) (fun x hx hxn => ?_)
              · by_cases hxw : x = w
                · subst hxw; rw [x_up_at]
                · rw [x_up_off (by omega)]; exact b2 x (by omega)
              · rw [x_up_off (by omega)]; exact b3 x (by omega) hxn
        exact loop n 0 IA (by omega) Sm.rf (fun _ _ => rfl) (fun x hx => by omega) (fun x _ hxn => by rw [show IA 3392 (29 + x) = I6 3392 (29 + x) from w4 (29 + x) (by omega)]; exact hw x hxn)
    have go165 : ∀ x, x = nI (min u v) → XS mX10_readsLink 165 [(0, .ref 49), (1, .int (nI u)), (2, .int (nI v)), (4, .int (nI c)), (5, .int (nI d)), (6, .int (nI ln))] [.int x, .int (nI ln), .ref 65] I L Q := by
      rintro x rfl
      refine bX10_readsLink_165 (vp_in_nI hl14 (by decide)) (fun h => bX10_readsLink_181 ?_) (fun h => bX10_readsLink_177 ?_)
      · rw [nI_leI (by omega) (by omega)] at h
        rw [nI_clamp (by omega), show nI u = nI (max u v) by rw [Nat.max_eq_left (by omega)]]
        exact go182
      · rw [nI_leI (by omega) (by omega)] at h
        rw [nI_clamp (by omega), show nI v = nI (max u v) by rw [Nat.max_eq_right (by omega)]]
        exact go182
    refine bX10_readsLink_135 (fun h => absurd rfl h) (fun _ => bX10_readsLink_143 (fun h => bX10_readsLink_164 ?_) (fun h => bX10_readsLink_160 ?_))
    · rw [nI_leI (by omega) (by omega)] at h
      rw [r2']
      exact go165 _ (by rw [Nat.min_eq_right (by omega)])
    · rw [nI_leI (by omega) (by omega)] at h
      rw [r2']
      exact go165 _ (by rw [Nat.min_eq_left (by omega)])
