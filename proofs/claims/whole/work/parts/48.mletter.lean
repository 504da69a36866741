/-! ===== the reference's letters ===== -/
def mBs (I : Nat → Nat → Int32) (S : List (Nat × Nat)) : Prop := I 3178 0 = nI S.length ∧ g_rs 4544 4608 I S
theorem mBs.sm {I I' : Nat → Nat → Int32} {S : List (Nat × Nat)} {T : List Nat} (h : mBs I S) (hs : Sm T I I') (h1 : 3178 ∉ T) (h2 : 4544 ∉ T) (h3 : 4608 ∉ T) : mBs I' S :=
  ⟨by rw [hs _ h1]; exact h.1, g_rs_sm h.2 (fun i _ => by rw [hs _ h2, hs _ h3]; exact ⟨rfl, rfl⟩)⟩
def mL (I : Nat → Nat → Int32) (P : List Nat) (X : Nat → Int32) (mm : Bool) (M0 : Int32) : Prop := I 3176 0 = nI P.length - 1 ∧ g_rp 4480 I P ∧ (∀ l, l < 14 → I 3328 l = X l) ∧ I 3175 0 = i_b mm ∧ I 3173 0 = M0 + i_b mm
theorem mL.sm {I I' : Nat → Nat → Int32} {P : List Nat} {X : Nat → Int32} {mm : Bool} {M0 : Int32} {T : List Nat} (h : mL I P X mm M0) (hs : Sm T I I') (h1 : ∀ r, r ∈ [3176, 4480, 3328, 3175, 3173] → r ∉ T) : mL I' P X mm M0 := by
  obtain ⟨a, b, c, d, e⟩ := h
  refine ⟨by rw [hs _ (h1 _ (by decide))]; exact a, g_rp_sm b (fun i _ => by rw [hs _ (h1 _ (by decide))]), fun l hl => by rw [hs _ (h1 _ (by decide))]; exact c l hl, by rw [hs _ (h1 _ (by decide))]; exact d, by rw [hs _ (h1 _ (by decide))]; exact e⟩
theorem s_bears {k w : Nat} {S : List (Nat × Nat)} {I : Nat → Nat → Int32} {L : Nat → Int64} {Q : Option Value → (Nat → Nat → Int32) → (Nat → Int64) → Prop} (hB : mBs I S) (hS : S.length < 24) (K : ∀ I', Sm [3178, 4544, 4608] I I' → mBs I' ((k, w) :: S) → Q none I' L) : XS mX10_bears 0 [(0, .ref 49), (1, .int (nI k)), (2, .int (nI w))] [] I L Q := by
  have hb : I 3178 0 = nI S.length := hB.1
  refine bX10_bears_0 (by rw [hb]; exact vp_in_nI hS (by decide)) (by rw [x_up_ne (by decide), hb]; exact vp_in_nI hS (by decide)) ?_
  rw [hb, nI_clamp (by omega), x_up_ne (by decide), hb, nI_clamp (by omega), x_up_ne (by decide), x_up_ne (by decide), hb, nI_1]
  refine K _ (((Sm.rf.up (by decide)).up (by decide)).up (by decide)) ⟨by rw [x_up_at]; rfl, ?_, ?_, g_rs_sm hB.2 (fun i hi => ?_)⟩
  · rw [x_up_ne (by decide), x_up_ne (by decide), x_up_at]
  · rw [x_up_ne (by decide), x_up_at]
  · exact ⟨by rw [x_up_ne (by decide), x_up_ne (by decide), x_up_off (by omega)], by rw [x_up_ne (by decide), x_up_off (by omega), x_up_ne (by decide)]⟩
theorem s_leavesOwn {u n ln : Nat} (hu : u < 2 ^ 31) (hn : n < 2 ^ 31) (hln : ln < 2 ^ 31) {L : Nat → Int64} {Q : Option Value → (Nat → Nat → Int32) → (Nat → Int64) → Prop} : ∀ {S : List (Nat × Nat)} {I : Nat → Nat → Int32}, mBs I S → S.length ≤ 16 → (∀ p, p ∈ S → g_sg n ln p) → (∀ I', Sm [3178] I I' → mBs I' (g_dw u S) → Q none I' L) → XS mX10_leavesOwn 0 [(0, .ref 49), (1, .int (nI u))] [] I L Q := by
  intro S
  induction S with
  | nil =>
    intro I hB hl hv K
    have hb : I 3178 0 = nI 0 := hB.1
    exact bX10_leavesOwn_0 (fun _ => bX10_leavesOwn_50 (K I Sm.rf hB)) (fun h => absurd (by rw [hb]; decide) h)
  | cons p S1 ih =>
    intro I hB hl hv K
    obtain ⟨k, w⟩ := p
    simp only [List.length_cons] at hl
    have hb : I 3178 0 = nI (S1.length + 1) := hB.1
    have hsg := hv (k, w) (by simp)
    have hk3 : k < 3 := hsg.1
    have hw : w < 2 ^ 31 := by
      obtain ⟨s1, s2, s3⟩ := hsg
      dsimp only at s1 s2 s3
      by_cases h2 : k = 2
      · have := s2 h2; omega
      · have := s3 (by omega); omega
    have hvp : vp_in (I 3178 0 - 1) 24 := by rw [hb, nI_pred]; exact vp_in_nI (by omega) (by decide)
    have hk : I 4544 S1.length = nI k := hB.2.1
    have hwh : I 4608 S1.length = nI w := hB.2.2.1
    have no : ¬ (k < 2 ∧ w = u) → XS mX10_leavesOwn 50 [] [] I L Q := fun hno => bX10_leavesOwn_50 (K I Sm.rf (by
      have : g_dw u ((k, w) :: S1) = (k, w) :: S1 := by
        show (if k < 2 ∧ w = u then g_dw u S1 else (k, w) :: S1) = _
        rw [if_neg hno]
      rw [this]; exact hB))
    refine bX10_leavesOwn_0 (fun h => ?_) (fun _ => bX10_leavesOwn_7 hvp (fun h => no ?_) (fun h => bX10_leavesOwn_22 hvp (fun h2 => no ?_) (fun h2 => bX10_leavesOwn_37 ?_)))
    · rw [hb] at h
      have := (i_le _ 0 rfl rfl (by omega) (by decide)).mp h
      omega
    · rw [hb, nI_pred, nI_clamp (by omega), hk] at h
      have := (i_le 2 k rfl rfl (by decide) (by omega)).mp h
      intro q; omega
    · rw [hb, nI_pred, nI_clamp (by omega), hwh, nI_eq hw hu] at h2
      exact fun q => h2 q.2
    · rw [hb, nI_pred, nI_clamp (by omega), hk] at h
      rw [hb, nI_pred, nI_clamp (by omega), hwh, nI_eq hw hu] at h2
      have h' : k < 2 := by
        rcases Nat.lt_or_ge k 2 with q | q
        · exact q
        · exact absurd ((i_le 2 k rfl rfl (by decide) (by omega)).mpr q) h
      rw [hb, nI_pred]
      have hBt : mBs (x_up I 3178 0 (nI S1.length)) S1 := ⟨by rw [x_up_at], g_rs_sm hB.2.2.2 (fun i _ => by rw [x_up_ne (by decide), x_up_ne (by decide)]; exact ⟨rfl, rfl⟩)⟩
      refine ih hBt (by omega) (fun q hq => hv q (by simp [hq])) (fun I2 s2 hB2 => K I2 ((Sm.rf.up (by decide)).tr s2) ?_)
      have : g_dw u ((k, w) :: S1) = g_dw u S1 := by
        show (if k < 2 ∧ w = u then g_dw u S1 else (k, w) :: S1) = _
        rw [if_pos ⟨h', h2⟩]
      rw [this]; exact hB2
theorem s_linkFrom {n ln u k w : Nat} {lo hi c0 c1 seen : Nat → Nat} {S : List (Nat × Nat)} {I : Nat → Nat → Int32} {L : Nat → Int64} {Q : Option Value → (Nat → Nat → Int32) → (Nat → Int64) → Prop} (hG : mG I n ln lo hi) (hN : g_net n ln lo hi) (hC0 : mC I ln 0 c0) (hC1 : mC I ln 1 c1) (hc0 : g_cs ln c0) (hc1 : g_cs ln c1) (hu : u < n) (hseen : ∀ u, u < n → I 3392 (29 + u) = nI (seen u) ∧ seen u < 2 ^ 31) (hS : mBs I ((k, w) :: S)) (hl : S.length < 16) (hs : g_sg n ln (k, w))
    (K : ∀ I', Sm [3712] I I' → Q (some (.int (match g_lh n ln lo hi c0 c1 seen u k w with | some l => nI l | none => g_er k))) I' L) : XS mX10_linkFrom 0 [(0, .ref 49), (1, .int (nI u))] [] I L Q := by
  have hn8 := hN.2.1
  have hln := hN.2.2.1
  have hk3 : k < 3 := hs.1
  have hb : I 3178 0 = nI (S.length + 1) := hS.1
  have hvp : vp_in (I 3178 0 - 1) 24 := by rw [hb, nI_pred]; exact vp_in_nI (by omega) (by decide)
  have hk : I 4544 S.length = nI k := hS.2.1
  have hwh : I 4608 S.length = nI w := hS.2.2.1
  refine bX10_linkFrom_0 hvp hvp (fun h => ?_) (fun h => ?_)
  · rw [hb, nI_pred, nI_clamp (by omega), hk] at h
    rw [hb, nI_pred, nI_clamp (by omega), hk, hwh]
    have hk2 : k ≠ 2 := fun q => h (by subst q; rfl)
    have hw : w < n := hs.2.2 (by show k < 2; omega)
    have h29 : (29 : Int32) + nI u = nI (29 + u) := nI_add 29 u
    have hv29 : vp_in ((29 : Int32) + nI u) 37 := i_vp _ h29 (by omega) (by decide)
    have sn := hseen u hu
    have hC : mC I ln k (if k = 0 then c0 else c1) := by
      by_cases h0 : k = 0
      · subst h0; rw [if_pos rfl]; exact hC0
      · rw [if_neg h0, show k = 1 by omega]; exact hC1
    have hc : g_cs ln (if k = 0 then c0 else c1) := by split <;> assumption
    refine bX10_linkFrom_56 hv29 ?_
    have sn' : I 3392 (29 + u) = nI (seen u) := sn.1
    rw [h29, nI_clamp (by omega), sn']
    refine s_lays (kind := k) hG hN hC hc (by omega) sn.2 (fun I1 s1 hF => bX10_linkFrom_70 hv29 ?_)
    have sn1 : I1 3392 (29 + u) = nI (seen u) := by rw [s1 3392 (by decide)]; exact sn.1
    rw [h29, nI_clamp (by omega), sn1]
    refine s_nextOf (kind := k) (hG.sm s1 (by decide) (by decide) (by decide) (by decide)) hN (fun l hl => by rw [s1 _ (by decide)]; exact hC l hl) hc (by omega) sn.2 hF hu hw ?_
    have K' := K I1 s1
    unfold g_lh at K'
    rw [if_neg hk2] at K'
    cases hx : g_nxt (g_e ln lo hi (if k = 0 then c0 else c1) (seen u)) n u w with
    | none =>
      rw [hx] at K'
      unfold g_nl g_er at K'
      dsimp only at K'
      rw [if_neg hk2] at K'
      exact bX10_linkFrom_86 (fun h => absurd rfl h) (fun _ => bX10_linkFrom_94 (bX10_linkFrom_106 K'))
    | some v =>
      rw [hx] at K'
      unfold g_nl at K'
      dsimp only at K'
      obtain ⟨hv, _, _, _, c', he, _⟩ := g_nxt_some (g_e_ok hN hc (seen u)) hx
      cases hlk : g_lk ln lo hi u v with
      | none => unfold g_e at he; rw [hlk] at he; cases he
      | some l =>
        rw [hlk] at K'
        refine bX10_linkFrom_86 (fun _ => bX10_linkFrom_99 (s_linkOf (hG.sm s1 (by decide) (by decide) (by decide) (by decide)) hN (by omega) (by omega) (bX10_linkFrom_106 ?_))) (fun h => absurd h (i_m1ne (by omega)))
        rw [hlk]
        exact K'
  · rw [hb, nI_pred, nI_clamp (by omega), hk] at h
    rw [hb, nI_pred, nI_clamp (by omega), hwh]
    have hk2 : k = 2 := (i_eq k 2 rfl rfl (by omega) (by decide)).mp h
    subst hk2
    have hw : w < ln := hs.2.1 rfl
    have hbn := hN.2.2.2.1 w hw
    have K' := K I Sm.rf
    unfold g_lh g_er at K'
    rw [if_pos rfl] at K'
    have glo : I 3200 w = nI (lo w) := (hG.2.2 w hw).1
    have ghi : I 3264 w = nI (hi w) := (hG.2.2 w hw).2
    refine bX10_linkFrom_29 (vp_in_nI (by omega) (by decide)) (fun h1 => ?_) (fun h1 => bX10_linkFrom_39 (vp_in_nI (by omega) (by decide)) (fun h2 => ?_) (fun h2 => ?_))
    · rw [nI_clamp (by omega), glo, nI_eq (by omega) (by omega)] at h1
      rw [if_pos (Or.inl h1)] at K'
      exact bX10_linkFrom_49 (bX10_linkFrom_55 K')
    · rw [nI_clamp (by omega), glo, nI_eq (by omega) (by omega)] at h1
      rw [nI_clamp (by omega), ghi, nI_eq (by omega) (by omega)] at h2
      rw [if_neg (by omega)] at K'
      exact bX10_linkFrom_53 (bX10_linkFrom_55 K')
    · rw [nI_clamp (by omega), ghi, nI_eq (by omega) (by omega)] at h2
      rw [if_pos (Or.inr h2)] at K'
      exact bX10_linkFrom_49 (bX10_linkFrom_55 K')
theorem s_mends {n ln l u kk w : Nat} {lo hi c0 c1 seen : Nat → Nat} {S1 : List (Nat × Nat)} {P : List Nat} {X : Nat → Int32} {pr mm : Bool} {M0 : Int32} {I : Nat → Nat → Int32} {L : Nat → Int64} {Q : Option Value → (Nat → Nat → Int32) → (Nat → Int64) → Prop} (hG : mG I n ln lo hi) (hN : g_net n ln lo hi) (hC0 : mC I ln 0 c0) (hC1 : mC I ln 1 c1) (hc0 : g_cs ln c0) (hc1 : g_cs ln c1) (hu : u < n) (hseen : ∀ u, u < n → I 3392 (29 + u) = nI (seen u) ∧ seen u < 2 ^ 31) (hl : l < ln) (hsg : g_sg n ln (kk, w)) (hpr : I 3149 0 = i_b pr) (hB : mBs I ((kk, w) :: S1)) (hS : mm = false → S1.length < 8) (hS16 : S1.length < 16) (hL : mL I P X mm M0)
    (K0 : ∀ I', Sm [3712, 3151, 3776, 3840, 3904, 3155, 3968, 4032] I I' → (pr = false ∨ mm = true ∨ (pr = true ∧ mm = false ∧ g_fd n ln lo hi c0 c1 (seen u) l u (if kk = 2 then g_ot lo hi l u else w) none)) → Q (some (.int 0)) I' L)
    (K1 : ∀ I' F, Sm [3712, 3151, 3776, 3840, 3904, 3155, 3968, 4032, 3178, 4544, 4608, 3175, 3173] I I' → pr = true → mm = false → g_fd n ln lo hi c0 c1 (seen u) l u (if kk = 2 then g_ot lo hi l u else w) (some F) → mBs I' (F ++ (if kk = 2 then S1 else (kk, w) :: S1)) → mL I' P X true M0 → Q (some (.int 1)) I' L) :
    XS mX10_mends 0 [(0, .ref 49), (1, .int (nI u)), (2, .int (nI l))] [] I L Q := by
  have hn8 := hN.2.1
  have hln := hN.2.2.1
  have hbn := hN.2.2.2.1 l hl
  have hk3 : kk < 3 := hsg.1
  have hot := g_ot_lt (u := u) hN hl
  have hb : I 3178 0 = nI (S1.length + 1) := hB.1
  have hvp : vp_in (I 3178 0 - 1) 24 := by rw [hb, nI_pred]; exact vp_in_nI (by omega) (by decide)
  have hk : I 4544 S1.length = nI kk := hB.2.1
  have hwh : I 4608 S1.length = nI w := hB.2.2.1
  have hto : (if kk = 2 then g_ot lo hi l u else w) < n := by
    by_cases hk : kk = 2
    · rw [if_pos hk]; exact hot
    · rw [if_neg hk]; exact hsg.2.2 (by show kk < 2; omega)
  have sn := hseen u hu
  have rest : XS mX10_mends 37 [(0, .ref 49), (1, .int (nI u)), (2, .int (nI l)), (3, .int (nI kk))] [.int (nI (if kk = 2 then g_ot lo hi l u else w))] I L Q := by
    refine bX10_mends_37 (fun h => bX10_mends_65 (K0 I Sm.rf (Or.inl ?_))) (fun h => bX10_mends_46 (fun h2 => bX10_mends_65 (K0 I Sm.rf (Or.inr (Or.inl ?_)))) (fun h2 => bX10_mends_54 ?_))
    · have h' : I 3149 0 = 0 := h
      rw [hpr, i_b0] at h'; exact h'
    · have h2' : I 3175 0 = 1 := h2
      rw [hL.2.2.2.1, i_b1] at h2'; exact h2'
    · have h' : ¬ I 3149 0 = 0 := h
      rw [hpr, i_b0] at h'
      have h2' : ¬ I 3175 0 = 1 := h2
      rw [hL.2.2.2.1, i_b1] at h2'
      have hp : pr = true := by simpa using h'
      have hm : mm = false := by simpa using h2'
      refine s_repairs hG hN hC0 hC1 hc0 hc1 sn.2 (by omega) hu hto sn.1 (fun I1 b T s1 hRP hT => ?_)
      cases b with
      | false => exact bX10_mends_62 (fun h => absurd rfl h) (fun _ => bX10_mends_65 (K0 I1 s1 (Or.inr (Or.inr ⟨hp, hm, T, _, _, hRP⟩))))
      | true =>
        obtain ⟨F, f1, f2, f3⟩ := g_fd_of hN hRP
        have hF8 : F.length < 8 := f2.1
        have hB1 : mBs I1 ((kk, w) :: S1) := hB.sm s1 (by decide) (by decide) (by decide)
        have hL1 : mL I1 P X mm M0 := hL.sm s1 (by decide)
        have hS8 := hS hm
        have hil := g_if_len (kk := kk) (w := w) (S1 := S1)
        have put : ∀ t I2, t ≤ F.length → Sm [3178, 4544, 4608] I1 I2 → mBs I2 (F.drop t ++ (if kk = 2 then S1 else (kk, w) :: S1)) → XS mX10_mends 94 [(0, .ref 49), (5, .int (nI t - 1))] [] I2 L Q := by
          intro t
          induction t with
          | zero =>
            intro I2 ht s2 hB2
            refine bX10_mends_94 (fun _ => bX10_mends_123 ?_) (fun h => absurd (by decide) h)
            have hL3 : mL I2 P X mm M0 := hL1.sm s2 (by decide)
            refine K1 _ F (((s1.mono (by decide)).tr (s2.mono (by decide)) |>.up (by decide)).up (by decide)) hp hm f2 (hB2.sm (T := [3175, 3173]) ((Sm.rf.up (by decide)).up (by decide)) (by decide) (by decide) (by decide)) ⟨?_, g_rp_sm hL3.2.1 (fun i _ => by rw [x_up_ne (by decide), x_up_ne (by decide)]), fun j hj => ?_, ?_, ?_⟩
            · rw [x_up_ne (by decide), x_up_ne (by decide)]; exact hL3.1
            · rw [x_up_ne (by decide), x_up_ne (by decide)]; exact hL3.2.2.1 j hj
            · rw [x_up_ne (by decide), x_up_at]; rfl
            · rw [x_up_at, x_up_ne (by decide)]
              have e : I2 3173 0 = M0 + i_b mm := hL3.2.2.2.2
              rw [e, hm]
              show M0 + 0 + 1 = M0 + 1
              rw [Int32.add_zero]
          | succ t ih =>
            intro I2 ht s2 hB2
            rw [nI_pred]
            have g1 : I2 3968 t = nI (F.getD t (0, 0)).1 := by rw [s2 _ (by decide)]; exact (f3 t (by omega)).1
            have g2 : I2 4032 t = nI (F.getD t (0, 0)).2 := by rw [s2 _ (by decide)]; exact (f3 t (by omega)).2
            refine bX10_mends_94 (fun h => absurd rfl (i_neg h (a := t) (by omega))) (fun _ => bX10_mends_99 (vp_in_nI (by omega) (by decide)) (vp_in_nI (by omega) (by decide)) ?_)
            rw [nI_clamp (by omega), g1, g2]
            refine s_bears hB2 (by simp; omega) (fun I3 s3 hB3 => bX10_mends_117 ?_)
            rw [i_am1]
            refine ih I3 (by omega) (s2.tr s3) ?_
            have hd : F.drop t = F.getD t (0, 0) :: F.drop (t + 1) := g_drop (by omega)
            rw [hd, List.cons_append]
            exact hB3
        have hm1 : ∀ I2 : Nat → Nat → Int32, Sm [3178, 4544, 4608] I1 I2 → I2 3155 0 - (1 : Int32) = nI F.length - 1 := fun I2 s2 => by
          rw [s2 3155 (by decide), show I1 3155 0 = nI T from hT rfl, f1]
        have fin : ∀ b2 S2, nI (S1.length + 1) - b2 = nI S2 → (mBs (x_up I1 3178 0 (nI S2)) (if kk = 2 then S1 else (kk, w) :: S1)) → XS mX10_mends 82 [(0, .ref 49)] [.int b2, .int (I1 3178 0), .ref 49] I1 L Q := by
          intro b2 S2 hb2 hB2
          refine bX10_mends_82 ?_
          have e : I1 3178 0 - b2 = nI S2 := by rw [show I1 3178 0 = nI (S1.length + 1) from hB1.1]; exact hb2
          rw [e, hm1 _ (Sm.rf.up (by decide))]
          exact put F.length _ (Nat.le_refl _) (Sm.rf.up (by decide)) (by rw [List.drop_length]; exact hB2)
        refine bX10_mends_62 (fun _ => bX10_mends_67 (fun h => bX10_mends_81 ?_) (fun h => bX10_mends_77 ?_)) (fun h => absurd h (by decide))
        · have hk2 : kk ≠ 2 := fun q => h (by subst q; rfl)
          refine fin 0 (S1.length + 1) (by rw [Int32.sub_zero]) ?_
          rw [if_neg hk2]
          exact ⟨by rw [x_up_at]; rfl, g_rs_sm hB1.2 (fun i _ => by rw [x_up_ne (by decide), x_up_ne (by decide)]; exact ⟨rfl, rfl⟩)⟩
        · have hk2 : kk = 2 := (i_eq kk 2 rfl rfl (by omega) (by decide)).mp h
          refine fin 1 S1.length (nI_pred _) ?_
          rw [if_pos hk2]
          exact ⟨by rw [x_up_at], g_rs_sm hB1.2.2.2 (fun i _ => by rw [x_up_ne (by decide), x_up_ne (by decide)]; exact ⟨rfl, rfl⟩)⟩
  refine bX10_mends_0 hvp (fun h => bX10_mends_26 hvp ?_) (fun h => bX10_mends_17 ?_)
  · rw [hb, nI_pred, nI_clamp (by omega), hk] at h
    have hk2 : kk ≠ 2 := fun q => h (by subst q; rfl)
    rw [if_neg hk2] at rest
    rw [hb, nI_pred, nI_clamp (by omega), hk, hwh]
    exact rest
  · rw [hb, nI_pred, nI_clamp (by omega), hk] at h
    have hk2 : kk = 2 := (i_eq kk 2 rfl rfl (by omega) (by decide)).mp h
    rw [if_pos hk2] at rest
    rw [hb, nI_pred, nI_clamp (by omega), hk]
    exact s_otherEnd hG hN hl (by omega) (bX10_mends_23 rest)
theorem s_goesFrom {n ln U u : Nat} {lo hi c0 c1 seen : Nat → Nat} {S : List (Nat × Nat)} {X : Nat → Int32} {pr : Bool} {M0 : Int32} {I : Nat → Nat → Int32} {L : Nat → Int64} {Q : Option Value → (Nat → Nat → Int32) → (Nat → Int64) → Prop} (hG : mG I n ln lo hi) (hN : g_net n ln lo hi) (hC0 : mC I ln 0 c0) (hC1 : mC I ln 1 c1) (hc0 : g_cs ln c0) (hc1 : g_cs ln c1) (hU : I 3392 28 = nI U) (hU2 : U < 2 ^ 31) (hu : u < n) (hseen : ∀ u, u < n → I 3392 (29 + u) = nI (seen u) ∧ seen u < 2 ^ 31) (hpr : I 3149 0 = i_b pr) (hB : mBs I S) (hS8 : S.length ≤ 8) (hsg : ∀ p, p ∈ S → g_sg n ln p) (hL : mL I [u] X false M0)
    (K : ∀ I' R, Sm [3712, 3151, 3776, 3840, 3904, 3155, 3968, 4032, 3178, 4544, 4608, 3175, 3173, 3176, 4480, 3328] I I' → g_L n ln lo hi c0 c1 seen U pr 22 u S [u] X false R → mL I' R.2.1 R.2.2.1 R.2.2.2 M0 → R.2.1.length ≤ 21 → Q (some (.int R.1)) I' L) :
    XS mX10_goesFrom 0 [(0, .ref 49), (1, .int (nI u))] [] I L Q := by
  have hn8 := hN.2.1
  have hln := hN.2.2.1
  generalize hAll : [3712, 3151, 3776, 3840, 3904, 3155, 3968, 4032, 3178, 4544, 4608, 3175, 3173, 3176, 4480, 3328] = All at K
  have inA : ∀ {T : List Nat}, (∀ r, r ∈ T → r ∈ [3712, 3151, 3776, 3840, 3904, 3155, 3968, 4032, 3178, 4544, 4608, 3175, 3173, 3176, 4480, 3328]) → ∀ r, r ∈ T → r ∈ All := fun h r hr => hAll ▸ h r hr
  have off : ∀ r, r ∉ [3712, 3151, 3776, 3840, 3904, 3155, 3968, 4032, 3178, 4544, 4608, 3175, 3173, 3176, 4480, 3328] → r ∉ All := fun r h q => h (hAll ▸ q)
  have kG : ∀ {I'}, Sm All I I' → mG I' n ln lo hi := fun hs => hG.sm hs (off _ (by decide)) (off _ (by decide)) (off _ (by decide)) (off _ (by decide))
  have kC0 : ∀ {I' : Nat → Nat → Int32}, Sm All I I' → mC I' ln 0 c0 := fun hs l hl => by rw [hs _ (off _ (by decide))]; exact hC0 l hl
  have kC1 : ∀ {I' : Nat → Nat → Int32}, Sm All I I' → mC I' ln 1 c1 := fun hs l hl => by rw [hs _ (off _ (by decide))]; exact hC1 l hl
  have kseen : ∀ {I' : Nat → Nat → Int32}, Sm All I I' → ∀ u, u < n → I' 3392 (29 + u) = nI (seen u) ∧ seen u < 2 ^ 31 := fun hs u hu => by rw [hs _ (off _ (by decide))]; exact hseen u hu
  have key : ∀ fuel u S P X mm I', P.length ≤ 21 → 1 ≤ P.length → P.length + (if mm = true then 1 else 0) + fuel = 23 → (∀ p, p ∈ S → g_sg n ln p) → u < n → S.length ≤ (if mm = true then 15 else 8) → Sm All I I' → mBs I' S → mL I' P X mm M0 → (∀ I2 R, Sm All I I2 → g_L n ln lo hi c0 c1 seen U pr fuel u S P X mm R → mL I2 R.2.1 R.2.2.1 R.2.2.2 M0 → R.2.1.length ≤ 21 → Q (some (.int R.1)) I2 L) → XS mX10_goesFrom 2 [(0, .ref 49), (2, .int (nI u))] [] I' L Q := by
    intro fuel
    induction fuel with
    | zero =>
      intro u S P X mm I' hP hP0 hPm
      split at hPm <;> omega
    | succ k ih =>
      intro u S P X mm I' hP hP0 hPm hsg hu hS hs hB hL KK
      have hS15 : S.length ≤ 15 := by split at hS <;> omega
      have hdl := g_dw_len (u := u) (S := S)
      refine bX10_goesFrom_2 (s_leavesOwn (n := n) (ln := ln) (by omega) (by omega) (by omega) hB (by omega) hsg (fun I1 s1 hB1 => ?_))
      have hs1 : Sm All I I1 := hs.tr (s1.mono (inA (by decide)))
      have hL1 : mL I1 P X mm M0 := hL.sm s1 (by decide)
      have hbs1 : I1 3178 0 = nI (g_dw u S).length := hB1.1
      have hsg1 : ∀ p, p ∈ g_dw u S → g_sg n ln p := fun p hp => hsg p (g_dw_mem hp)
      have hpl : I1 3176 0 = nI (P.length - 1) := by
        rw [show I1 3176 0 = nI P.length - 1 from hL1.1]; exact i_sub (a := P.length) (b := 1) hP0
      cases hd : g_dw u S with
      | nil =>
        rw [hd] at hbs1
        exact bX10_goesFrom_7 (fun h => absurd hbs1 h) (fun _ => bX10_goesFrom_14 (KK I1 (nI u, P, X, mm) hs1 (g_L_end hd) hL1 hP))
      | cons p S1 =>
        obtain ⟨kk, w⟩ := p
        rw [hd] at hbs1 hB1 hdl hsg1
        simp only [List.length_cons] at hbs1 hdl
        have hsgt := hsg1 (kk, w) (by simp)
        have hk3 : kk < 3 := hsgt.1
        refine bX10_goesFrom_7 (fun _ => bX10_goesFrom_16 (fun h => ?_) (fun h => ?_)) (fun h => ?_)
        · have hPn : P.length ≠ 21 := by
            intro q
            apply h
            rw [hpl, q]
            rfl
          refine bX10_goesFrom_28 (s_linkFrom (kG hs1) hN (kC0 hs1) (kC1 hs1) hc0 hc1 hu (kseen hs1) hB1 (by omega) hsgt (fun I2 s2 => ?_))
          have hs2 : Sm All I I2 := hs1.tr (s2.mono (inA (by decide)))
          have hL2 : mL I2 P X mm M0 := hL1.sm s2 (by decide)
          have hB2 : mBs I2 ((kk, w) :: S1) := hB1.sm s2 (by decide) (by decide) (by decide)
          cases hlh : g_lh n ln lo hi c0 c1 seen u kk w with
          | none =>
            refine bX10_goesFrom_33 (fun h => ?_) (fun _ => bX10_goesFrom_38 (KK I2 (g_er kk, P, X, mm) hs2 (g_L_no hd hPn hlh) hL2 hP))
            exfalso
            revert h
            show ¬ (0 : Int32) ≤ g_er kk
            unfold g_er
            split <;> decide
          | some l =>
            obtain ⟨hl, hend⟩ := g_lh_lt hN hsgt hlh
            have hbn := hN.2.2.2.1 l hl
            refine bX10_goesFrom_33 (fun _ => bX10_goesFrom_40 ?_) (fun h => absurd ((i_le 0 l rfl rfl (by decide) (by omega)).mpr (by omega)) h)
            rw [show I2 3392 28 = nI U by rw [hs2 3392 (off _ (by decide))]; exact hU]
            refine s_has hU2 (by omega) ?_
            cases hUl : U.testBit l with
            | true =>
              refine bX10_goesFrom_51 (fun h => absurd h (by decide)) (fun _ => ?_)
              have hb2 : I2 3178 0 = nI (S1.length + 1) := hB2.1
              have hk2 : I2 4544 S1.length = nI kk := hB2.2.1
              have cross : ∀ b2 S2, nI (S1.length + 1) - b2 = nI S2 → S2 = (if kk = 2 then S1 else (kk, w) :: S1).length → XS mX10_goesFrom 79 [(0, .ref 49), (2, .int (nI u)), (3, .int (nI l))] [.int b2, .int (I2 3178 0), .ref 49] I2 L Q := by
                intro b2 S2 hbe hSe
                refine bX10_goesFrom_79 (vp_in_nI (by omega) (by decide)) (vp_in_nI (by omega) (by decide)) ?_
                have e : I2 3178 0 - b2 = nI S2 := by rw [hb2]; exact hbe
                have e2 : I2 3328 l = X l := hL2.2.2.1 l (by omega)
                have e3 : I2 3176 0 = nI (P.length - 1) := by
                  rw [show I2 3176 0 = nI P.length - 1 from hL2.1]; exact i_sub (a := P.length) (b := 1) hP0
                rw [e, nI_clamp (by omega), x_up_ne (by decide), e2, x_up_ne (by decide), x_up_ne (by decide), e3, nI_1]
                have s3 : Sm [3178, 4544, 4608, 3176, 4480, 3328] I2 (x_up (x_up (x_up I2 3178 0 (nI S2)) 3328 l (X l + 1)) 3176 0 (nI (P.length - 1 + 1))) := ((Sm.rf.up (by decide)).up (by decide)).up (by decide)
                have q1 : (x_up (x_up (x_up I2 3178 0 (nI S2)) 3328 l (X l + 1)) 3176 0 (nI (P.length - 1 + 1))) 3178 0 = nI S2 := by rw [x_up_ne (by decide), x_up_ne (by decide), x_up_at]
                have q2 : (x_up (x_up (x_up I2 3178 0 (nI S2)) 3328 l (X l + 1)) 3176 0 (nI (P.length - 1 + 1))) 3176 0 = nI P.length := by rw [x_up_at, show P.length - 1 + 1 = P.length by omega]
                have q3 : ∀ j, j < 14 → (x_up (x_up (x_up I2 3178 0 (nI S2)) 3328 l (X l + 1)) 3176 0 (nI (P.length - 1 + 1))) 3328 j = if j = l then X j + 1 else X j := fun j hj => by
                  rw [x_up_ne (by decide)]
                  by_cases hjl : j = l
                  · subst hjl; rw [x_up_at, if_pos rfl]
                  · rw [x_up_off hjl, x_up_ne (by decide), if_neg hjl]; exact hL2.2.2.1 j hj
                have q4 : ∀ r, r ≠ 3178 → r ≠ 3328 → r ≠ 3176 → (x_up (x_up (x_up I2 3178 0 (nI S2)) 3328 l (X l + 1)) 3176 0 (nI (P.length - 1 + 1))) r = I2 r := fun r h1 h2 h3 => by rw [x_up_ne h3, x_up_ne h2, x_up_ne h1]
                generalize (x_up (x_up (x_up I2 3178 0 (nI S2)) 3328 l (X l + 1)) 3176 0 (nI (P.length - 1 + 1))) = I3 at s3 q1 q2 q3 q4 ⊢
                have hs3 : Sm All I I3 := hs2.tr (s3.mono (inA (by decide)))
                refine s_otherEnd (kG hs3) hN hl (by omega) (bX10_goesFrom_109 (by rw [q2]; exact vp_in_nI (by omega) (by decide)) (bX10_goesFrom_135 ?_))
                rw [q2, nI_clamp (by omega)]
                show XS mX10_goesFrom 2 [(0, .ref 49), (2, .int (nI (g_ot lo hi l u)))] [] (x_up I3 4480 P.length (nI (g_ot lo hi l u))) L Q
                refine ih (g_ot lo hi l u) (if kk = 2 then S1 else (kk, w) :: S1) (g_ot lo hi l u :: P) (fun j => if j = l then X j + 1 else X j) mm _ (by simp; omega) (by simp) (by simp; omega) (fun p hp => ?_) (g_ot_lt hN hl) (Nat.le_trans (g_if_len (kk := kk) (w := w) (S1 := S1)) (by omega)) (hs3.up (inA (T := [4480]) (by decide) _ (by decide))) ⟨?_, ?_⟩ ⟨?_, ⟨?_, ?_⟩, fun j hj => ?_, ?_, ?_⟩ (fun I4 R s4 hR hL4 hP4 => KK I4 R s4 (g_L_over hd hPn hlh hUl hR) hL4 hP4)
                · split at hp
                  · exact hsg1 p (by simp [hp])
                  · exact hsg1 p hp
                · rw [x_up_ne (by decide), q1, hSe]
                · by_cases hk : kk = 2
                  · rw [if_pos hk]
                    exact g_rs_sm hB2.2.2.2 (fun i _ => by rw [x_up_ne (by decide), x_up_ne (by decide), q4 _ (by decide) (by decide) (by decide), q4 _ (by decide) (by decide) (by decide)]; exact ⟨rfl, rfl⟩)
                  · rw [if_neg hk]
                    exact g_rs_sm hB2.2 (fun i _ => by rw [x_up_ne (by decide), x_up_ne (by decide), q4 _ (by decide) (by decide) (by decide), q4 _ (by decide) (by decide) (by decide)]; exact ⟨rfl, rfl⟩)
                · rw [x_up_ne (by decide), q2]
                  simp only [List.length_cons]
                  rw [nI_pred]
                · rw [x_up_at]
                · exact g_rp_sm hL2.2.1 (fun i hi => by rw [x_up_off (by omega), q4 _ (by decide) (by decide) (by decide)])
                · rw [x_up_ne (by decide)]; exact q3 j hj
                · rw [x_up_ne (by decide), q4 _ (by decide) (by decide) (by decide)]; exact hL2.2.2.2.1
                · rw [x_up_ne (by decide), q4 _ (by decide) (by decide) (by decide)]; exact hL2.2.2.2.2
              refine bX10_goesFrom_54 (by rw [hb2, nI_pred]; exact vp_in_nI (by omega) (by decide)) (fun h => bX10_goesFrom_78 ?_) (fun h => bX10_goesFrom_74 ?_)
              · rw [hb2, nI_pred, nI_clamp (by omega), hk2] at h
                have hk : kk ≠ 2 := fun q => h (by subst q; rfl)
                exact cross 0 (S1.length + 1) (by rw [Int32.sub_zero]) (by rw [if_neg hk]; rfl)
              · rw [hb2, nI_pred, nI_clamp (by omega), hk2] at h
                have hk : kk = 2 := (i_eq kk 2 rfl rfl (by omega) (by decide)).mp h
                exact cross 1 S1.length (nI_pred _) (by rw [if_pos hk])
            | false =>
              refine bX10_goesFrom_51 (fun _ => bX10_goesFrom_123 (s_mends (pr := pr) (kG hs2) hN (kC0 hs2) (kC1 hs2) hc0 hc1 hu (kseen hs2) hl hsgt (by rw [hs2 _ (off _ (by decide))]; exact hpr) hB2 (fun hm => by rw [hm] at hS; simp at hS; omega) (by omega) hL2 (fun I3 s3 hno => ?_) (fun I3 F s3 hp hm hF hB3 hL3 => ?_))) (fun h => absurd rfl h)
              · refine bX10_goesFrom_129 (fun h => absurd rfl h) (fun _ => bX10_goesFrom_132 (KK I3 (-12, P, X, mm) (hs2.tr (s3.mono (inA (by decide)))) ?_ (hL2.sm s3 (by decide)) hP))
                rcases hno with h | h | ⟨h1, h2, h3⟩
                · exact g_L_down hd hPn hlh hUl (Or.inl h)
                · exact g_L_down hd hPn hlh hUl (Or.inr h)
                · exact g_L_down2 hd hPn hlh hUl h1 h2 h3
              · refine bX10_goesFrom_129 (fun _ => bX10_goesFrom_135 ?_) (fun h => absurd h (by decide))
                have hF8 : F.length < 8 := hF.1
                have hFs := hF.2.1
                refine ih u _ P X true I3 hP hP0 (by rw [hm] at hPm; simp at hPm ⊢; omega) (fun p hp' => ?_) hu ?_ (hs2.tr (s3.mono (inA (by decide)))) hB3 hL3 (fun I4 R s4 hR hL4 hP4 => KK I4 R s4 (g_L_mend hd hPn hlh hUl hp hm hF hR) hL4 hP4)
                · rw [List.mem_append] at hp'
                  rcases hp' with q | q
                  · exact hFs p q
                  · split at q
                    · exact hsg1 p (by simp [q])
                    · exact hsg1 p q
                · rw [hm] at hS
                  simp at hS
                  have := g_if_len (kk := kk) (w := w) (S1 := S1)
                  rw [List.length_append, if_pos rfl]
                  omega
        · refine bX10_goesFrom_25 (KK I1 (-14, P, X, mm) hs1 (g_L_far hd ?_) hL1 hP)
          rw [hpl] at h
          have := (i_eq _ 20 rfl rfl (by omega) (by decide)).mp h
          omega
        · rw [hbs1] at h
          have := (i_eq _ 0 rfl rfl (by omega) (by decide)).mp h
          omega
  exact bX10_goesFrom_0 (key 22 u S [u] X false I (by simp) (by simp) (by simp) hsg hu (by simpa using hS8) Sm.rf hB hL (fun I2 R s2 hR hL2 hP2 => K I2 R s2 hR hL2 hP2))
