/-! ===== a deed undone; a letter sent ===== -/
theorem c_takeBack {n ln a ah : Nat} {lo hi c0 c1 : Nat → Nat} {U : Nat} {seen : Nat → Nat} {H : Nat → g_H} {I : Nat → Nat → Int32} {L : Nat → Int64} {Q : Option Value → (Nat → Nat → Int32) → (Nat → Int64) → Prop} (hln : ln ≤ 14) (hn8 : n ≤ 8) (hc : cSt I (n, ln, lo, hi, c0, c1, U, seen)) (ha : a ≤ 8) (ha0 : 0 < a) (hh : ah < 8) (p3 : I 710 0 = nI a) (p4 : I 709 0 = nI ah) (p6 : H 0 = (U, c0, c1, seen)) (hd : cDl I n ln ((ah + 7) % 8) (H 0) (H 1))
    (K : ∀ I', Sm [709, 710, 66, 256, 320, 448] I I' → I' 709 0 = nI ((ah + 7) % 8) → I' 710 0 = nI (a - 1) → cSt I' (g_hs (n, ln, lo, hi, c0, c1, U, seen) (H 1)) → Q none I' L) :
    XS mX3_takeBack 0 [(0, .ref 11)] [] I L Q := by
  obtain ⟨g1, g2, g3, g4, g5⟩ := hc
  have e9 : I 709 0 = nI ah := p4
  have e10 : I 710 0 = nI a := p3
  have hp8 : (ah + 7) % 8 < 8 := Nat.mod_lt _ (by decide)
  have go : ∀ s1 : Int32, s1 = nI ((ah + 7) % 8) → XS mX3_takeBack 19 [(0, .ref 11)] [.int s1, .ref 11] I L Q := by
    rintro s1 rfl
    have hgo := @bX3_takeBack_19 I L Q (nI ((ah + 7) % 8))
    have k1 : (x_up I 709 0 (nI ((ah + 7) % 8))) 710 0 - (1 : Int32) = nI (a - 1) := by rw [x_up_ne (by decide), e10]; exact i_sub (a := a) (b := 1) (by omega)
    rw [k1] at hgo
    generalize hpd : (ah + 7) % 8 = p at hp8 hd K hgo k1
    have t1 : Sm [709, 710] I (x_up (x_up I 709 0 (nI p)) 710 0 (nI (a - 1))) := (Sm.rf.up (by decide)).up (by decide)
    have t2 : (x_up (x_up I 709 0 (nI p)) 710 0 (nI (a - 1))) 709 0 = nI p := by rw [x_up_ne (by decide), x_up_at]
    have t3 : (x_up (x_up I 709 0 (nI p)) 710 0 (nI (a - 1))) 710 0 = nI (a - 1) := x_up_at
    revert hgo
    generalize (x_up (x_up I 709 0 (nI p)) 710 0 (nI (a - 1))) = I1 at t1 t2 t3 ⊢
    intro hgo
    rw [t2, nI_clamp (by omega), t1 768 (by decide), t1 832 (by decide)] at hgo
    have hv : vp_in (nI p) 8 := vp_in_nI hp8 (by decide)
    have hvt : vp_in (I1 709 0) 8 := by rw [t2]; exact hv
    have f1 : ∀ r, r ∉ [709, 710] → I1 r = I r := fun r hr => t1 r hr
    rcases hd with ⟨w1, V, w2, w3⟩ | ⟨w1, l, v, w, hl, w2, w3, w4, w5⟩ | ⟨w1, u, x, hu, w2, w3, w4⟩
    · have w1' : I 768 p = 0 := w1
      refine hgo hv hv (fun q => absurd w1' q) (fun _ => bX3_takeBack_54 hvt (bX3_takeBack_143 ?_))
      rw [t2, nI_clamp (by omega), f1 896 (by decide), show I 896 p = nI V from w2]
      have s2 : Sm [66] I1 (x_up I1 66 0 (nI V)) := Sm.rf.up (by decide)
      have s12 : Sm [709, 710, 66] I (x_up I1 66 0 (nI V)) := (t1.mono (by decide)).tr (s2.mono (by decide))
      refine K _ (s12.mono (by decide)) (by rw [s2 _ (by decide)]; exact t2) (by rw [s2 _ (by decide)]; exact t3) ?_
      rw [w3, p6]
      exact ⟨g1.sm s12 (by decide) (by decide) (by decide) (by decide), fun j hj => by rw [s12 _ (by decide)]; exact g2 j hj, fun j hj => by rw [s12 _ (by decide)]; exact g3 j hj, x_up_at, fun j hj => by rw [s12 _ (by decide)]; exact g5 j hj⟩
    · have w1' : I 768 p = 1 := w1
      have hv2 : vp_in (nI l) 14 := vp_in_nI (by omega) (by decide)
      have w2' : I 832 p = nI l := w2
      refine hgo hv hv (fun _ => bX3_takeBack_73 hvt (fun q => ?_) (fun _ => bX3_takeBack_86 hvt (by rw [w2']; exact hv2) (by rw [x_up_ne (by decide)]; exact hvt) (by rw [w2']; exact hv2) (bX3_takeBack_143 ?_))) (fun q => ?_)
      · rw [t2, nI_clamp (by omega), f1 768 (by decide)] at q
        exact absurd w1' q
      · have k2 : (x_up I1 256 l (nI v)) 709 0 = nI p := by rw [x_up_ne (by decide)]; exact t2
        have k3 : (x_up I1 256 l (nI v)) 960 p = nI w := by rw [x_up_ne (by decide), f1 960 (by decide)]; exact w4
        rw [w2', t2, nI_clamp (by omega), nI_clamp (by omega), f1 896 (by decide), show I 896 p = nI v from w3, k2, nI_clamp (by omega), k3]
        have s2 : Sm [256, 320] I1 (x_up (x_up I1 256 l (nI v)) 320 l (nI w)) := (Sm.rf.up (by decide)).up (by decide)
        have s12 : Sm [709, 710, 256, 320] I (x_up (x_up I1 256 l (nI v)) 320 l (nI w)) := (t1.mono (by decide)).tr (s2.mono (by decide))
        refine K _ (s12.mono (by decide)) (by rw [s2 _ (by decide)]; exact t2) (by rw [s2 _ (by decide)]; exact t3) ?_
        rw [w5, p6]
        refine ⟨g1.sm s12 (by decide) (by decide) (by decide) (by decide), fun j hj => ?_, fun j hj => ?_, by rw [s12 _ (by decide)]; exact g4, fun j hj => by rw [s12 _ (by decide)]; exact g5 j hj⟩
        · show (x_up (x_up I1 256 l (nI v)) 320 l (nI w)) 256 j = nI (g_set c0 l v j)
          rw [x_up_ne (by decide)]
          by_cases hjl : j = l
          · subst hjl; rw [x_up_at, g_set_at]
          · rw [x_up_off hjl, g_set_off hjl, f1 256 (by decide)]; exact g2 j hj
        · show (x_up (x_up I1 256 l (nI v)) 320 l (nI w)) 320 j = nI (g_set c1 l w j)
          by_cases hjl : j = l
          · subst hjl; rw [x_up_at, g_set_at]
          · rw [x_up_off hjl, g_set_off hjl, x_up_ne (by decide), f1 320 (by decide)]; exact g3 j hj
      · rw [w1'] at q
        exact absurd q (by decide)
    · have w1' : I 768 p = 2 := w1
      have hv2 : vp_in (nI u) 8 := vp_in_nI (by omega) (by decide)
      have w2' : I 832 p = nI u := w2
      refine hgo hv hv (fun _ => bX3_takeBack_73 hvt (fun _ => bX3_takeBack_125 hvt (by rw [w2']; exact hv2) (bX3_takeBack_143 ?_)) (fun q => ?_)) (fun q => ?_)
      · rw [w2', t2, nI_clamp (by omega), nI_clamp (by omega), f1 896 (by decide), show I 896 p = nI x from w3]
        have s2 : Sm [448] I1 (x_up I1 448 u (nI x)) := Sm.rf.up (by decide)
        have s12 : Sm [709, 710, 448] I (x_up I1 448 u (nI x)) := (t1.mono (by decide)).tr (s2.mono (by decide))
        refine K _ (s12.mono (by decide)) (by rw [s2 _ (by decide)]; exact t2) (by rw [s2 _ (by decide)]; exact t3) ?_
        rw [w4, p6]
        refine ⟨g1.sm s12 (by decide) (by decide) (by decide) (by decide), fun j hj => by rw [s12 _ (by decide)]; exact g2 j hj, fun j hj => by rw [s12 _ (by decide)]; exact g3 j hj, by rw [s12 _ (by decide)]; exact g4, fun j hj => ?_⟩
        show (x_up I1 448 u (nI x)) 448 j = nI (g_set seen u x j)
        by_cases hju : j = u
        · subst hju; rw [x_up_at, g_set_at]
        · rw [x_up_off hju, g_set_off hju, f1 448 (by decide)]; exact g5 j hj
      · rw [t2, nI_clamp (by omega), f1 768 (by decide), w1'] at q
        exact absurd q (by decide)
      · rw [w1'] at q
        exact absurd q (by decide)
  refine bX3_takeBack_0 (fun q => bX3_takeBack_17 (go 7 ?_)) (fun q => bX3_takeBack_8 (go _ ?_))
  · rw [e9] at q
    have := (i_le ah 0 rfl rfl (by omega) (by decide)).mp q
    rw [show (ah + 7) % 8 = 7 by omega]; rfl
  · rw [e9] at q
    have : ¬ ah ≤ 0 := fun z => q ((i_le ah 0 rfl rfl (by omega) (by decide)).mpr z)
    rw [e9, show (ah + 7) % 8 = ah - 1 by omega]
    exact i_sub (a := ah) (b := 1) (by omega)
theorem o_undo {k : Nat} {I : Nat → Nat → Int32} {L : Nat → Int64} (h : Rel k I) : Op k mX9_undo mX10_undo [] I L := by
  have h' := h
  obtain ⟨σ, hok, h23, hTx, hLi, hTr, hPr, hPa, hLe⟩ := h
  obtain ⟨n, ln, lo, hi, c0, c1, U, seen⟩ := σ
  obtain ⟨hN, hc0, hc1, hU14, hS14, hU, -⟩ := g_okS_eN hok
  have hln := hN.2.2.1
  have hn8 := hN.2.1
  obtain ⟨a, ah, H, p1, p2, p3, p4, p5, p6, p7⟩ := hPa
  have e10 : I 710 0 = nI a := p3
  have ea : I 3143 0 = nI a := p5
  refine bX9_undo_0 (fun q => bX9_undo_13 ?_) (fun q => bX9_undo_10 ⟨_, rfl, bX10_undo_0 (fun z => ?_) (fun _ => bX10_undo_7 ⟨rfl, h'.up⟩)⟩)
  · rw [e10] at q
    have ha0 : 0 < a := by
      apply Classical.byContradiction
      intro z
      exact q (by rw [show a = 0 by omega]; rfl)
    obtain ⟨q1, q2, q3⟩ := p7 0 ha0
    refine c_takeBack hln hn8 h23.1 p1 ha0 p2 p3 p4 p6 q2 (fun I1 s1 d1 d2 d3 => bX9_undo_20 ⟨_, rfl, ?_⟩)
    rw [show I1 710 0 = nI (a - 1) from d2]
    have f1 : I1 3143 0 - (1 : Int32) = nI (a - 1) := by rw [s1 3143 (by decide), ea]; exact i_sub (a := a) (b := 1) (by omega)
    refine bX10_undo_0 (fun _ => bX10_undo_10 ?_) (fun z => ?_)
    · rw [f1]
      have loop : ∀ d j I2, j + d = 37 → Sm [3143, 3392] I1 I2 → I2 3143 0 = nI (a - 1) → (∀ i, i < j → I2 3392 i = I 3456 (37 * (a - 1) + i)) → XS mX10_undo 22 [(0, .ref 49), (1, .int (nI j))] [] I2 L (fun r2 I2 _ => r2 = some (.int (nI (a - 1))) ∧ Rel (k + 1) I2) := by
        intro d
        induction d with
        | zero =>
          intro j I2 hj s2 b1 b2
          refine bX10_undo_22 (fun _ => bX10_undo_54 ⟨?_, ?_⟩) (fun z => absurd ((i_le 37 j rfl rfl (by decide) (by omega)).mpr (by omega)) z)
          · rw [show I2 3143 0 = nI (a - 1) from b1]
          · have s : Sm [709, 710, 66, 256, 320, 448, 3143, 3392] I I2 := (s1.mono (by decide)).tr (s2.mono (by decide))
            have hbase : 37 * (a - 1 - 0) = 37 * (a - 1) := by omega
            obtain ⟨w1, w2, w3⟩ := q3
            rw [hbase] at w1 w2 w3
            have hc1 : cSt I2 (g_hs (n, ln, lo, hi, c0, c1, U, seen) (H 1)) := by
              obtain ⟨v1, v2, v3, v4, v5⟩ := d3
              exact ⟨v1.sm s2 (by decide) (by decide) (by decide) (by decide), fun i hi => by rw [s2 _ (by decide)]; exact v2 i hi, fun i hi => by rw [s2 _ (by decide)]; exact v3 i hi, by rw [s2 _ (by decide)]; exact v4, fun i hi => by rw [s2 _ (by decide)]; exact v5 i hi⟩
            have hm1 : mSt I2 (g_hs (n, ln, lo, hi, c0, c1, U, seen) (H 1)) := by
              refine ⟨h23.2.1.sm s (by decide) (by decide) (by decide) (by decide), fun i hi => ?_, fun i hi => ?_, ?_, fun u hu => ?_⟩
              · have hi' : i < ln := hi; rw [Nat.mul_zero, Nat.zero_add, b2 i (by omega)]; exact (w1 i hi).1
              · have hi' : i < ln := hi; rw [Nat.mul_one, b2 (14 + i) (by omega), ← Nat.add_assoc]; exact (w1 i hi).2
              · rw [b2 28 (by omega)]; exact w2
              · have hu' : u < n := hu; rw [b2 (29 + u) (by omega), ← Nat.add_assoc]; exact w3 u hu
            refine ⟨g_hs (n, ln, lo, hi, c0, c1, U, seen) (H 1), q1, ⟨hc1, hm1⟩, hTx.ag (s.ag (by decide)), hLi.ag (s.ag (by decide)), hTr.ag (s.ag (by decide)), hPr.ag (s.ag (by decide)), ⟨a - 1, (ah + 7) % 8, fun i => H (i + 1), by omega, Nat.mod_lt _ (by decide), ?_, ?_, b1, rfl, fun i hia => ?_⟩, hLe.ag (s.ag (by decide)) (by omega)⟩
            · rw [s2 _ (by decide)]; exact d2
            · rw [s2 _ (by decide)]; exact d1
            · obtain ⟨y1, y2, y3⟩ := p7 (i + 1) (by omega)
              refine ⟨y1, ?_, ?_⟩
              · show cDl I2 n ln (((ah + 7) % 8 + 7 - i) % 8) (H (i + 1)) (H (i + 1 + 1))
                rw [show ((ah + 7) % 8 + 7 - i) % 8 = (ah + 7 - (i + 1)) % 8 by omega]
                exact y2.ag (by rw [s _ (by decide)]) (by rw [s _ (by decide)]) (by rw [s _ (by decide)]) (by rw [s _ (by decide)])
              · show mSn I2 n ln (37 * (a - 1 - 1 - i)) (H (i + 1 + 1))
                rw [show a - 1 - 1 - i = a - 1 - (i + 1) by omega]
                exact y3.ag (s _ (by decide))
        | succ d ih =>
          intro j I2 hj s2 b1 b2
          have ei : (37 : Int32) * I2 3143 0 + nI j = nI (37 * (a - 1) + j) := by
            rw [show I2 3143 0 = nI (a - 1) from b1, show (37 : Int32) * nI (a - 1) = nI (37 * (a - 1)) from pk_mul 37 (a - 1), nI_add]
          have ep : I2 3456 (37 * (a - 1) + j) = I 3456 (37 * (a - 1) + j) := by rw [s2 3456 (by decide), s1 3456 (by decide)]
          refine bX10_undo_22 (fun z => ?_) (fun _ => bX10_undo_28 (by rw [ei]; exact vp_in_nI (by omega) (by decide)) (vp_in_nI (by omega) (by decide)) ?_)
          · have := (i_le 37 j rfl rfl (by decide) (by omega)).mp z; omega
          · rw [ei, nI_clamp (by omega), nI_clamp (by omega), ep, nI_1]
            refine ih (j + 1) _ (by omega) (s2.up (by decide)) (by rw [x_up_ne (by decide)]; exact b1) (fun i hi => ?_)
            by_cases hij : i = j
            · subst hij; rw [x_up_at]
            · rw [x_up_off hij]; exact b2 i (by omega)
      exact loop 37 0 _ (by omega) (Sm.rf.up (by decide)) x_up_at (fun i hi => by omega)
    · rw [s1 3143 (by decide), ea] at z
      exact absurd z q
  · rw [e10] at q
    rw [ea] at z
    exact absurd q z
theorem g_L_len {n ln U : Nat} {lo hi c0 c1 seen : Nat → Nat} {pr : Bool} : ∀ k u S P X mm R, g_L n ln lo hi c0 c1 seen U pr k u S P X mm R → P.length ≤ R.2.1.length := by
  intro k
  induction k with
  | zero => intro u S P X mm R h; exact h.elim
  | succ k ih =>
    intro u S P X mm R h
    unfold g_L at h
    cases hd : g_dw u S with
    | nil =>
      rw [hd] at h
      dsimp only at h
      rw [h]; exact Nat.le_refl _
    | cons p S1 =>
      obtain ⟨kk, w⟩ := p
      rw [hd] at h
      dsimp only at h
      by_cases hP : P.length = 21
      · rw [if_pos hP] at h
        rw [h]; exact Nat.le_refl _
      · rw [if_neg hP] at h
        cases hl : g_lh n ln lo hi c0 c1 seen u kk w with
        | none =>
          rw [hl] at h
          dsimp only at h
          rw [h]; exact Nat.le_refl _
        | some l =>
          rw [hl] at h
          dsimp only at h
          by_cases hU : U.testBit l = true
          · rw [if_pos hU] at h
            have := ih _ _ _ _ _ _ h
            rw [List.length_cons] at this
            omega
          · rw [if_neg hU] at h
            by_cases hpr : pr = false ∨ mm = true
            · rw [if_pos hpr] at h
              rw [h]; exact Nat.le_refl _
            · rw [if_neg hpr] at h
              obtain ⟨o, h1, h2⟩ := h
              cases o with
              | none =>
                dsimp only at h2
                rw [h2]; exact Nat.le_refl _
              | some F => exact ih _ _ _ _ _ _ h2
theorem i_b_0 (x : Int32) : x + i_b false = x := by
  show x + 0 = x
  exact Int32.add_zero x
theorem o_send {k : Nat} {x : Int32} {I : Nat → Nat → Int32} {L : Nat → Int64} (h : Rel k I) : Op k mX9_send mX10_send [(1, .int x)] I L := by
  have h' := h
  obtain ⟨σ, hok, h23, hTx, ⟨F, f1, f2, f3, f4, f5⟩, hTr, ⟨pr, r1, r2⟩, hPa, ⟨s, P0, mm0, l1, l2, l3, l4, l5, l6, l7, l8, l9, l10, l11, l12⟩⟩ := h
  obtain ⟨n, ln, lo, hi, c0, c1, U, seen⟩ := σ
  have hLi : rLi I n ln := ⟨F, f1, f2, f3, f4, f5⟩
  have hPr : rPr I := ⟨pr, r1, r2⟩
  obtain ⟨hN, hc0, hc1, -, -, hU, hS⟩ := g_okS_eN hok
  have hln := hN.2.2.1
  have hn8 := hN.2.1
  obtain ⟨⟨g1, g2, g3, g4, g5⟩, ⟨m1, m2, m3, m4, m5⟩⟩ := id h23
  refine bX9_send_0 (c_hasNode g1 ?_)
  cases hx : g_is n x with
  | false =>
    refine bX9_send_8 (fun q => absurd rfl q) (fun _ => bX9_send_11 ⟨_, rfl, bX10_send_0 (s_isNode m1 (by omega) ?_)⟩)
    rw [hx]
    exact bX10_send_5 (fun q => absurd rfl q) (fun _ => bX10_send_8 ⟨rfl, h'.up⟩)
  | true =>
    obtain ⟨u, hu, rfl⟩ := (g_is_iff (by omega)).mp hx
    have sA : Sm [2818] I (x_up I 2818 0 0) := Sm.rf.up (by decide)
    refine bX9_send_8 (fun _ => bX9_send_14 (bX1_start_0 (c_putOnTop (F := F) (S := []) k_list (by decide) (by decide) (by decide) (by rw [sA _ (by decide)]; exact f3) (fun t ht => by rw [sA 1728 (by decide), sA 1792 (by decide)]; exact ⟨(f5 t ht).1, (f5 t ht).2.1⟩) f1 ⟨x_up_at, trivial⟩ (by simp; omega) (fun I1 s1 hB1 => bX1_start_16 (c_rput' (m := 0) k_passed x_up_at (by decide) ?_))))) (fun q => absurd q (by decide))
    rw [List.append_nil] at hB1
    have t1 : Sm [3009, 3072] I1 (x_up (x_up (x_up I1 3009 0 0) 3072 0 (nI u)) 3009 0 (nI (0 + 1))) := ((Sm.rf.up (by decide)).up (by decide)).up (by decide)
    have t2 : (x_up (x_up (x_up I1 3009 0 0) 3072 0 (nI u)) 3009 0 (nI (0 + 1))) 3009 0 = nI 1 := x_up_at
    have t3 : (x_up (x_up (x_up I1 3009 0 0) 3072 0 (nI u)) 3009 0 (nI (0 + 1))) 3072 0 = nI u := by rw [x_up_ne (by decide), x_up_at]
    generalize (x_up (x_up (x_up I1 3009 0 0) 3072 0 (nI u)) 3009 0 (nI (0 + 1))) = J at t1 t2 t3 ⊢
    have sJ : Sm [2818, 2880, 2944, 3009, 3072] I J := ((sA.mono (by decide)).tr (s1.mono (by decide))).tr (t1.mono (by decide))
    have ks : (x_up J 2762 0 0) 2758 0 + (1 : Int32) = nI (s + 1) := by rw [x_up_ne (by decide), sJ 2758 (by decide), show I 2758 0 = nI s from l3, nI_1]
    refine bX1_start_32 (bX9_send_26 ?_)
    rw [ks]
    have v1 : Sm [2762, 2758] J (x_up (x_up J 2762 0 0) 2758 0 (nI (s + 1))) := (Sm.rf.up (by decide)).up (by decide)
    have v2 : (x_up (x_up J 2762 0 0) 2758 0 (nI (s + 1))) 2762 0 = 0 := by rw [x_up_ne (by decide), x_up_at]
    have v3 : (x_up (x_up J 2762 0 0) 2758 0 (nI (s + 1))) 2758 0 = nI (s + 1) := x_up_at
    generalize (x_up (x_up J 2762 0 0) 2758 0 (nI (s + 1))) = I2 at v1 v2 v3 ⊢
    have s2 : Sm [2818, 2880, 2944, 3009, 3072, 2762, 2758] I I2 := (sJ.mono (by decide)).tr (v1.mono (by decide))
    have hB2 : cB I2 F := (hB1.sm t1 (by decide) (by decide) (by decide)).sm v1 (by decide) (by decide) (by decide)
    have hL2 : cL I2 [u] (I 384) false (I 2760 0) := by
      refine ⟨?_, ⟨?_, trivial⟩, fun l hl => ?_, v2, ?_⟩
      · rw [v1 _ (by decide)]; exact t2
      · rw [v1 _ (by decide)]; exact t3
      · rw [s2 _ (by decide)]
      · rw [s2 _ (by decide), i_b_0]
    refine c_carry (X := I 384) (M0 := I 2760 0) (g1.sm s2 (by decide) (by decide) (by decide) (by decide)) hN (fun j hj => by rw [s2 _ (by decide)]; exact g2 j hj) (fun j hj => by rw [s2 _ (by decide)]; exact g3 j hj) hc0 hc1 (by rw [s2 _ (by decide)]; exact g4) hU hu (fun w hw => ⟨by rw [s2 _ (by decide)]; exact g5 w hw, hS w hw⟩) (by rw [s2 _ (by decide)]; exact r1) hB2 f1 f2 hL2 (fun I3 R s3 hR hL3 hR21 => bX9_send_34 ?_)
    have hRlen : 1 ≤ R.2.1.length := g_L_len _ _ _ _ _ _ _ hR
    have sC : Sm [2818, 2880, 2944, 3009, 3072, 2762, 2758, 1088, 1152, 1216, 2049, 2112, 2176, 2240, 2304, 2368, 2432, 2496, 2562, 2624, 2688, 2760, 384] I I3 := (s2.mono (by decide)).tr (s3.mono (by decide))
    have sent3 : I3 2758 0 = nI (s + 1) := by rw [s3 _ (by decide)]; exact v3
    -- the end of it, in the class
    have cend : ∀ I4, Sm [2759, 2761] I3 I4 → (R.1 < 0 → I4 2761 0 = I 2761 0 + 1 ∧ I4 2759 0 = I 2759 0) → (¬ R.1 < 0 → I4 2761 0 = I 2761 0 ∧ I4 2759 0 = I 2759 0 + 1) → XS mX10_send 0 [(0, .ref 49), (1, .int (nI u))] [] I4 L (fun r2 I2 _ => r2 = some (.int R.1) ∧ Rel (k + 1) I2) := by
      intro I4 s4 hlt hge
      have sD : Sm [2818, 2880, 2944, 3009, 3072, 2762, 2758, 1088, 1152, 1216, 2049, 2112, 2176, 2240, 2304, 2368, 2432, 2496, 2562, 2624, 2688, 2760, 384, 2759, 2761] I I4 := (sC.mono (by decide)).tr (s4.mono (by decide))
      have m1' : mG I4 n ln lo hi := m1.sm sD (by decide) (by decide) (by decide) (by decide)
      refine bX10_send_0 (s_isNode m1' (by omega) ?_)
      rw [hx]
      refine bX10_send_5 (fun _ => bX10_send_11 ?_) (fun q => absurd q (by decide))
      have n1 : I4 3171 0 + (1 : Int32) = nI (s + 1) := by rw [sD 3171 (by decide), show I 3171 0 = nI s from l4, nI_1]
      have n2 : (x_up (x_up (x_up (x_up (x_up I4 3171 0 (nI (s + 1))) 3175 0 0) 3176 0 0) 4480 0 (nI u)) 3178 0 0) 3144 0 = nI F.length := by
        rw [x_up_ne (by decide), x_up_ne (by decide), x_up_ne (by decide), x_up_ne (by decide), x_up_ne (by decide), sD 3144 (by decide)]; exact f4
      rw [n1, n2]
      have u1 : Sm [3171, 3175, 3176, 4480, 3178] I4 (x_up (x_up (x_up (x_up (x_up I4 3171 0 (nI (s + 1))) 3175 0 0) 3176 0 0) 4480 0 (nI u)) 3178 0 0) := ((((Sm.rf.up (by decide)).up (by decide)).up (by decide)).up (by decide)).up (by decide)
      have u2 : (x_up (x_up (x_up (x_up (x_up I4 3171 0 (nI (s + 1))) 3175 0 0) 3176 0 0) 4480 0 (nI u)) 3178 0 0) 3171 0 = nI (s + 1) := by rw [x_up_ne (by decide), x_up_ne (by decide), x_up_ne (by decide), x_up_ne (by decide), x_up_at]
      have u3 : (x_up (x_up (x_up (x_up (x_up I4 3171 0 (nI (s + 1))) 3175 0 0) 3176 0 0) 4480 0 (nI u)) 3178 0 0) 3175 0 = 0 := by rw [x_up_ne (by decide), x_up_ne (by decide), x_up_ne (by decide), x_up_at]
      have u4 : (x_up (x_up (x_up (x_up (x_up I4 3171 0 (nI (s + 1))) 3175 0 0) 3176 0 0) 4480 0 (nI u)) 3178 0 0) 3176 0 = 0 := by rw [x_up_ne (by decide), x_up_ne (by decide), x_up_at]
      have u5 : (x_up (x_up (x_up (x_up (x_up I4 3171 0 (nI (s + 1))) 3175 0 0) 3176 0 0) 4480 0 (nI u)) 3178 0 0) 4480 0 = nI u := by rw [x_up_ne (by decide), x_up_at]
      have u6 : (x_up (x_up (x_up (x_up (x_up I4 3171 0 (nI (s + 1))) 3175 0 0) 3176 0 0) 4480 0 (nI u)) 3178 0 0) 3178 0 = nI 0 := by rw [x_up_at]; rfl
      generalize (x_up (x_up (x_up (x_up (x_up I4 3171 0 (nI (s + 1))) 3175 0 0) 3176 0 0) 4480 0 (nI u)) 3178 0 0) = I5 at u1 u2 u3 u4 u5 u6 ⊢
      have loop : ∀ t I6, t ≤ F.length → Sm [3178, 4544, 4608] I5 I6 → mBs I6 (F.drop t) → XS mX10_send 50 [(0, .ref 49), (1, .int (nI u)), (2, .int (nI t - 1))] [] I6 L (fun r2 I2 _ => r2 = some (.int R.1) ∧ Rel (k + 1) I2) := by
        intro t
        induction t with
        | zero =>
          intro I6 ht s6 hB6
          rw [List.drop_zero] at hB6
          refine bX10_send_50 (fun _ => bX10_send_76 ?_) (fun q => absurd (by decide) q)
          have sE : Sm [3171, 3175, 3176, 4480, 3178, 4544, 4608] I4 I6 := (u1.mono (by decide)).tr (s6.mono (by decide))
          have sF : Sm [2818, 2880, 2944, 3009, 3072, 2762, 2758, 1088, 1152, 1216, 2049, 2112, 2176, 2240, 2304, 2368, 2432, 2496, 2562, 2624, 2688, 2760, 384, 2759, 2761, 3171, 3175, 3176, 4480, 3178, 4544, 4608] I I6 := (sD.mono (by decide)).tr (sE.mono (by decide))
          have hL6 : mL I6 [u] (I 384) false (I 2760 0) := by
            refine ⟨?_, ⟨?_, trivial⟩, fun l hl => ?_, ?_, ?_⟩
            · rw [s6 _ (by decide)]; exact u4.trans (show (0 : Int32) = nI 1 - 1 by decide)
            · rw [s6 _ (by decide)]; exact u5
            · rw [sF _ (by decide)]; exact (l10 l hl).symm
            · rw [s6 _ (by decide)]; exact u3
            · rw [sF _ (by decide), i_b_0]; exact l7.symm
          refine s_goesFrom (X := I 384) (M0 := I 2760 0) (m1.sm sF (by decide) (by decide) (by decide) (by decide)) hN (m2.sm sF (by decide)) (m3.sm sF (by decide)) hc0 hc1 (by rw [sF _ (by decide)]; exact m4) hU hu (fun w hw => ⟨by rw [sF _ (by decide)]; exact m5 w hw, hS w hw⟩) (by rw [sF _ (by decide)]; exact r2) hB6 f1 f2 hL6 (fun I7 R' s7 hR' hL7 hR21' => ?_)
          have eR := g_L_uni hN hc0 _ _ _ _ _ _ _ _ hR' hR
          subst eR
          have sG : Sm [3171, 3175, 3176, 4480, 3178, 4544, 4608, 3712, 3151, 3776, 3840, 3904, 3155, 3968, 4032, 3173, 3328] I4 I7 := (sE.mono (by decide)).tr (s7.mono (by decide))
          have w3172 : I7 3172 0 = I 3172 0 := by rw [sG 3172 (by decide), sD 3172 (by decide)]
          have w3174 : I7 3174 0 = I 3174 0 := by rw [sG 3174 (by decide), sD 3174 (by decide)]
          have l5' : I 2759 0 = I 3172 0 := l5
          have l6' : I 2761 0 = I 3174 0 := l6
          have rel : ∀ I8, Sm [3172, 3174] I7 I8 → (I8 2759 0 = I8 3172 0 ∧ I8 2761 0 = I8 3174 0) → Rel (k + 1) I8 := by
            intro I8 s8 hq
            have sH : Sm [3171, 3175, 3176, 4480, 3178, 4544, 4608, 3712, 3151, 3776, 3840, 3904, 3155, 3968, 4032, 3173, 3328, 3172, 3174] I4 I8 := (sG.mono (by decide)).tr (s8.mono (by decide))
            have sI : Sm [2818, 2880, 2944, 3009, 3072, 2762, 2758, 1088, 1152, 1216, 2049, 2112, 2176, 2240, 2304, 2368, 2432, 2496, 2562, 2624, 2688, 2760, 384, 2759, 2761, 3171, 3175, 3176, 4480, 3178, 4544, 4608, 3712, 3151, 3776, 3840, 3904, 3155, 3968, 4032, 3173, 3328, 3172, 3174] I I8 := (sD.mono (by decide)).tr (sH.mono (by decide))
            have sK : Sm [2759, 2761, 3171, 3175, 3176, 4480, 3178, 4544, 4608, 3712, 3151, 3776, 3840, 3904, 3155, 3968, 4032, 3173, 3328, 3172, 3174] I3 I8 := (s4.mono (by decide)).tr (sH.mono (by decide))
            obtain ⟨x1, x2, x3, x4, x5⟩ := hL3
            obtain ⟨y1, y2, y3, y4, y5⟩ := hL7
            refine ⟨(n, ln, lo, hi, c0, c1, U, seen), hok, rNe_ag h23 (sI.ag (by decide)), hTx.ag (sI.ag (by decide)), hLi.ag (sI.ag (by decide)), hTr.ag (sI.ag (by decide)), hPr.ag (sI.ag (by decide)), hPa.ag (sI.ag (by decide)), ⟨s + 1, R'.2.1, R'.2.2.2, by omega, hR21, ?_, ?_, hq.1, hq.2, ?_, ?_, ?_, fun l hl => ?_, fun q => by omega, fun _ => ⟨by omega, ?_, ?_, ?_, ?_⟩⟩⟩
            · rw [sK _ (by decide)]; exact sent3
            · rw [s8 _ (by decide), s7 _ (by decide), s6 _ (by decide)]; exact u2
            · rw [sK 2760 (by decide), s8 3173 (by decide)]; exact x5.trans y5.symm
            · rw [sK _ (by decide)]; exact x4
            · rw [s8 _ (by decide)]; exact y4
            · rw [sK 384 (by decide), s8 3328 (by decide)]; exact (x3 l hl).trans (y3 l hl).symm
            · rw [sK _ (by decide)]; exact x1
            · rw [s8 _ (by decide)]; exact y1
            · exact g_rp_sm x2 (fun i _ => by rw [sK _ (by decide)])
            · exact g_rp_sm y2 (fun i _ => by rw [s8 _ (by decide)])
          have th4 : I7 2759 0 = I4 2759 0 := by rw [sG 2759 (by decide)]
          have lo4 : I7 2761 0 = I4 2761 0 := by rw [sG 2761 (by decide)]
          refine bX10_send_81 (fun q => bX10_send_95 (bX10_send_96 (fun q2 => ?_) (fun _ => bX10_send_109 (bX10_send_114 ⟨rfl, rel _ ((Sm.rf.up (by decide)).up (by decide)) ⟨?_, ?_⟩⟩)))) (fun q => bX10_send_91 (bX10_send_96 (fun _ => bX10_send_113 (bX10_send_114 ⟨rfl, rel _ ((Sm.rf.up (by decide)).up (by decide)) ⟨?_, ?_⟩⟩)) (fun q2 => ?_)))
          · exact absurd q (Int32.not_lt.mpr q2)
          · show (x_up (x_up I7 3172 0 (I7 3172 0 + 0)) 3174 0 _) 2759 0 = (x_up (x_up I7 3172 0 (I7 3172 0 + 0)) 3174 0 _) 3172 0
            rw [x_up_ne (by decide), x_up_ne (by decide), th4, x_up_ne (by decide), x_up_at, Int32.add_zero, w3172]
            exact (hlt q).2.trans l5'
          · show (x_up (x_up I7 3172 0 (I7 3172 0 + 0)) 3174 0 ((x_up I7 3172 0 (I7 3172 0 + 0)) 3174 0 + 1)) 2761 0 = (x_up (x_up I7 3172 0 (I7 3172 0 + 0)) 3174 0 ((x_up I7 3172 0 (I7 3172 0 + 0)) 3174 0 + 1)) 3174 0
            rw [x_up_ne (r := 3174) (q := 2761) (by decide), x_up_ne (r := 3172) (q := 2761) (by decide), lo4, x_up_at, x_up_ne (r := 3172) (q := 3174) (by decide), w3174, ← l6']
            exact (hlt q).1
          · show (x_up (x_up I7 3172 0 (I7 3172 0 + 1)) 3174 0 _) 2759 0 = (x_up (x_up I7 3172 0 (I7 3172 0 + 1)) 3174 0 _) 3172 0
            rw [x_up_ne (by decide), x_up_ne (by decide), th4, x_up_ne (by decide), x_up_at, w3172, ← l5']
            exact (hge q).2
          · show (x_up (x_up I7 3172 0 (I7 3172 0 + 1)) 3174 0 ((x_up I7 3172 0 (I7 3172 0 + 1)) 3174 0 + 0)) 2761 0 = (x_up (x_up I7 3172 0 (I7 3172 0 + 1)) 3174 0 ((x_up I7 3172 0 (I7 3172 0 + 1)) 3174 0 + 0)) 3174 0
            rw [x_up_ne (r := 3174) (q := 2761) (by decide), x_up_ne (r := 3172) (q := 2761) (by decide), lo4, x_up_at, x_up_ne (r := 3172) (q := 3174) (by decide), Int32.add_zero, w3174, ← l6']
            exact (hge q).1
          · exact absurd (Int32.not_lt.mp q) q2
        | succ t ih =>
          intro I6 ht s6 hB6
          rw [nI_pred]
          have hvt : vp_in (nI t) 8 := vp_in_nI (by omega) (by decide)
          obtain ⟨y1, y2, y3, y4⟩ := f5 t (by omega)
          have z1 : I6 3520 t = nI (F.getD t (0, 0)).1 := by rw [s6 3520 (by decide), u1 3520 (by decide), sD 3520 (by decide)]; exact y3
          have z2 : I6 3584 t = nI (F.getD t (0, 0)).2 := by rw [s6 3584 (by decide), u1 3584 (by decide), sD 3584 (by decide)]; exact y4
          refine bX10_send_50 (fun q => absurd rfl (i_neg q (a := t) (by omega))) (fun _ => bX10_send_54 hvt hvt ?_)
          rw [nI_clamp (by omega), z1, z2]
          refine s_bears hB6 (by rw [List.length_drop]; omega) (fun I7 s7 hB7 => bX10_send_70 ?_)
          rw [i_am1]
          refine ih I7 (by omega) (s6.tr s7) ?_
          rw [g_drop (by omega)]
          exact hB7
      exact loop F.length I5 (Nat.le_refl _) Sm.rf ⟨by rw [List.drop_length]; exact u6, by rw [List.drop_length]; trivial⟩
    have t3' : I3 2759 0 = I 2759 0 := sC 2759 (by decide) ▸ rfl
    have lo3' : I3 2761 0 = I 2761 0 := sC 2761 (by decide) ▸ rfl
    refine bX1_noteEnd_0 (fun q => bX1_noteEnd_17 (bX1_noteEnd_27 (bX9_send_43 ⟨_, rfl, cend _ (Sm.rf.up (by decide)) (fun _ => ⟨?_, ?_⟩) (fun z => absurd q z)⟩))) (fun q => bX1_noteEnd_4 (bX1_noteEnd_27 (bX9_send_43 ⟨_, rfl, cend _ (Sm.rf.up (by decide)) (fun z => absurd z q) (fun _ => ⟨?_, ?_⟩)⟩)))
    · rw [x_up_at, lo3']
    · rw [x_up_ne (by decide)]; exact t3'
    · rw [x_up_ne (by decide)]; exact lo3'
    · rw [x_up_at, t3']
