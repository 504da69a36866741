/-! ===== the class's letters ===== -/
def g_rs (rk rw : Nat) (I : Nat → Nat → Int32) : List (Nat × Nat) → Prop
  | [] => True
  | p :: S => I rk S.length = nI p.1 ∧ I rw S.length = nI p.2 ∧ g_rs rk rw I S
def g_rp (r : Nat) (I : Nat → Nat → Int32) : List Nat → Prop
  | [] => True
  | u :: P => I r P.length = nI u ∧ g_rp r I P
theorem g_rs_sm {rk rw : Nat} {I I' : Nat → Nat → Int32} : ∀ {S : List (Nat × Nat)}, g_rs rk rw I S → (∀ i, i < S.length → I' rk i = I rk i ∧ I' rw i = I rw i) → g_rs rk rw I' S
  | [], _, _ => trivial
  | p :: S, h, hs => by
    have := hs S.length (by simp)
    exact ⟨by rw [this.1]; exact h.1, by rw [this.2]; exact h.2.1, g_rs_sm h.2.2 (fun i hi => hs i (by simp; omega))⟩
theorem g_rp_sm {r : Nat} {I I' : Nat → Nat → Int32} : ∀ {P : List Nat}, g_rp r I P → (∀ i, i < P.length → I' r i = I r i) → g_rp r I' P
  | [], _, _ => trivial
  | u :: P, h, hs => by
    have := hs P.length (by simp)
    exact ⟨by rw [this]; exact h.1, g_rp_sm h.2 (fun i hi => hs i (by simp; omega))⟩
theorem g_drop {F : List (Nat × Nat)} {t : Nat} (h : t < F.length) : F.drop t = F.getD t (0, 0) :: F.drop (t + 1) := by
  rw [List.drop_eq_getElem_cons h]
  simp [List.getD, h]
theorem k_borne : kS 44 2818 2880 2944 16 := ⟨sh_44, 45, 46, rf_2816, rf_2817, sh_45, sh_46, rfl, rfl, rfl, by decide, by decide, by decide, by decide⟩
theorem k_passed : kR 47 3009 3072 21 := ⟨sh_47, 48, rf_3008, sh_48, rfl, rfl, by decide, by decide⟩
def cB (I : Nat → Nat → Int32) (S : List (Nat × Nat)) : Prop := I 2818 0 = nI S.length ∧ g_rs 2880 2944 I S
theorem cB.sm {I I' : Nat → Nat → Int32} {S : List (Nat × Nat)} {T : List Nat} (h : cB I S) (hs : Sm T I I') (h1 : 2818 ∉ T) (h2 : 2880 ∉ T) (h3 : 2944 ∉ T) : cB I' S :=
  ⟨by rw [hs _ h1]; exact h.1, g_rs_sm h.2 (fun i _ => by rw [hs _ h2, hs _ h3]; exact ⟨rfl, rfl⟩)⟩
theorem c_putOnTop {o rl ra rb N : Nat} {S F : List (Nat × Nat)} {I : Nat → Nat → Int32} {L : Nat → Int64} {Q : Option Value → (Nat → Nat → Int32) → (Nat → Int64) → Prop} (h : kS o rl ra rb N) (d1 : rl ∉ [2818, 2880, 2944]) (d2 : ra ∉ [2818, 2880, 2944]) (d3 : rb ∉ [2818, 2880, 2944]) (hm : I rl 0 = nI F.length) (hF : ∀ t, t < F.length → I ra t = nI (F.getD t (0, 0)).1 ∧ I rb t = nI (F.getD t (0, 0)).2) (hN : F.length ≤ N) (hS : cB I S) (hcap : F.length + S.length ≤ 16)
    (K : ∀ I', Sm [2818, 2880, 2944] I I' → cB I' (F ++ S) → Q none I' L) : XS mX7_putOnTop 0 [(0, .ref 44), (1, .ref o)] [] I L Q := by
  obtain ⟨a, A, B, b, b2, c, c2, d, d0, e, f, f2, f3, g⟩ := id h
  have key : ∀ t I', t ≤ F.length → Sm [2818, 2880, 2944] I I' → cB I' (F.drop t ++ S) → XS mX7_putOnTop 7 [(0, .ref 44), (1, .ref o), (2, .int (nI t - 1))] [] I' L Q := by
    intro t
    induction t with
    | zero =>
      intro I' ht hs hB
      exact bX7_putOnTop_7 (fun _ => bX7_putOnTop_33 (K I' hs hB)) (fun h => absurd (by decide) h)
    | succ t ih =>
      intro I' ht hs hB
      rw [nI_pred]
      have hlen : (F.drop (t + 1) ++ S).length = F.length - (t + 1) + S.length := by simp
      refine bX7_putOnTop_7 (fun h => absurd rfl (i_neg h (a := t) (by omega))) (fun _ => bX7_putOnTop_11 a b c (vp_in_nI (by omega) g) b2 c2 (vp_in_nI (by omega) g) k_borne.1 (c_sput' k_borne hB.1 (by rw [hlen]; omega) (bX7_putOnTop_27 ?_)))
      rw [nI_clamp (by omega), d, d0, hs ra d2, hs rb d3, (hF t (by omega)).1, (hF t (by omega)).2, i_am1]
      refine ih _ (by omega) (((hs.up (by decide)).up (by decide)).up (by decide)) ?_
      have hd : F.drop t = F.getD t (0, 0) :: F.drop (t + 1) := g_drop (by omega)
      rw [hd, List.cons_append]
      refine ⟨by rw [x_up_at]; rfl, ?_, ?_, g_rs_sm hB.2 (fun i hi => ?_)⟩
      · rw [x_up_ne (by decide), x_up_ne (by decide), x_up_at]
      · rw [x_up_ne (by decide), x_up_at]
      · exact ⟨by rw [x_up_ne (by decide), x_up_ne (by decide), x_up_off (by omega)], by rw [x_up_ne (by decide), x_up_off (by omega), x_up_ne (by decide)]⟩
  refine bX7_putOnTop_0 a ?_
  rw [e, hm]
  exact key F.length I (Nat.le_refl _) Sm.rf (by rw [List.drop_length]; exact hS)
theorem c_topKind {p : Nat × Nat} {S : List (Nat × Nat)} {I : Nat → Nat → Int32} {L : Nat → Int64} {Q : Option Value → (Nat → Nat → Int32) → (Nat → Int64) → Prop} (hS : cB I (p :: S)) (hl : S.length < 16) (K : Q (some (.int (nI p.1))) I L) : XS mX7_topKind 0 [(0, .ref 44)] [] I L Q := by
  obtain ⟨a, A, B, b, b2, c, c2, d, d0, e, f, f2, f3, g⟩ := k_borne
  have hm : I (64 * 44 + 2) 0 = nI (S.length + 1) := hS.1
  refine bX7_topKind_0 a (fun _ => ?_) (fun h => ?_)
  · refine bX7_topKind_11 a b c (by rw [hm, nI_pred]; exact vp_in_nI hl (by decide)) (bX7_topKind_22 ?_)
    rw [hm, nI_pred, nI_clamp (by omega), d, hS.2.1]
    exact K
  · rw [hm] at h
    have := (i_eq _ 0 rfl rfl (by omega) (by decide)).mp h
    omega
theorem c_topWhat {p : Nat × Nat} {S : List (Nat × Nat)} {I : Nat → Nat → Int32} {L : Nat → Int64} {Q : Option Value → (Nat → Nat → Int32) → (Nat → Int64) → Prop} (hS : cB I (p :: S)) (hl : S.length < 16) (K : Q (some (.int (nI p.2))) I L) : XS mX7_topWhat 0 [(0, .ref 44)] [] I L Q := by
  obtain ⟨a, A, B, b, b2, c, c2, d, d0, e, f, f2, f3, g⟩ := k_borne
  have hm : I (64 * 44 + 2) 0 = nI (S.length + 1) := hS.1
  refine bX7_topWhat_0 a (fun _ => ?_) (fun h => ?_)
  · refine bX7_topWhat_11 a b2 c2 (by rw [hm, nI_pred]; exact vp_in_nI hl (by decide)) (bX7_topWhat_22 ?_)
    rw [hm, nI_pred, nI_clamp (by omega), d0, hS.2.2.1]
    exact K
  · rw [hm] at h
    have := (i_eq _ 0 rfl rfl (by omega) (by decide)).mp h
    omega
theorem c_dropTop {p : Nat × Nat} {S : List (Nat × Nat)} {I : Nat → Nat → Int32} {L : Nat → Int64} {Q : Option Value → (Nat → Nat → Int32) → (Nat → Int64) → Prop} (hS : cB I (p :: S)) (hl : S.length < 16) (K : ∀ I', Sm [2818] I I' → cB I' S → Q none I' L) : XS mX7_dropTop 0 [(0, .ref 44)] [] I L Q := by
  have hm : I (64 * 44 + 2) 0 = nI (S.length + 1) := hS.1
  refine bX7_dropTop_0 sh_44 (fun h => ?_) (fun _ => bX7_dropTop_7 sh_44 (bX7_dropTop_17 ?_))
  · rw [hm] at h
    have := (i_le _ 0 rfl rfl (by omega) (by decide)).mp h
    omega
  · rw [hm, nI_pred]
    exact K _ (Sm.rf.up (by decide)) ⟨by rw [x_up_at], g_rs_sm hS.2.2.2 (fun i _ => by rw [x_up_ne (by decide), x_up_ne (by decide)]; exact ⟨rfl, rfl⟩)⟩
theorem c_isTopTo {u n ln : Nat} {S : List (Nat × Nat)} {I : Nat → Nat → Int32} {L : Nat → Int64} {Q : Option Value → (Nat → Nat → Int32) → (Nat → Int64) → Prop} (hS : cB I S) (hl : S.length ≤ 16) (hu : u < 2 ^ 31) (hv : ∀ p, p ∈ S → g_sg n ln p) (hn : n < 2 ^ 31) (hln : ln < 2 ^ 31) (K1 : ∀ p S1, S = p :: S1 → p.1 < 2 ∧ p.2 = u → Q (some (.int 1)) I L) (K0 : g_dw u S = S → Q (some (.int 0)) I L) : XS mX7_isTopTo 0 [(0, .ref 44), (1, .int (nI u))] [] I L Q := by
  obtain ⟨a, A, B, b, b2, c, c2, d, d0, e, f, f2, f3, g⟩ := k_borne
  have hm : I (64 * 44 + 2) 0 = nI S.length := hS.1
  cases S with
  | nil =>
    refine bX7_isTopTo_0 a (fun _ => bX7_isTopTo_41 (bX7_isTopTo_42 (Or.inl rfl) (K0 rfl))) (fun h => ?_)
    rw [hm] at h
    exact absurd (by decide) h
  | cons p S1 =>
    obtain ⟨k, w⟩ := p
    have hsg := hv (k, w) (by simp)
    have hw : w < 2 ^ 31 := by
      obtain ⟨s1, s2, s3⟩ := hsg
      dsimp only at s1 s2 s3
      by_cases h2 : k = 2
      · have := s2 h2; omega
      · have := s3 (by omega); omega
    have hk3 : k < 3 := hsg.1
    have hm' : I (64 * 44 + 2) 0 = nI (S1.length + 1) := hm
    simp only [List.length_cons] at hl
    have hvp : vp_in (I (64 * 44 + 2) 0 - 1) 16 := by rw [hm', nI_pred]; exact vp_in_nI (by omega) (by decide)
    have no : ¬ (k < 2 ∧ w = u) → XS mX7_isTopTo 41 [] [] I L Q := fun hno => bX7_isTopTo_41 (bX7_isTopTo_42 (Or.inl rfl) (K0 (by unfold g_dw; rw [if_neg hno])))
    refine bX7_isTopTo_0 a (fun h => ?_) (fun _ => bX7_isTopTo_7 a b c hvp (fun h => no ?_) (fun h => bX7_isTopTo_22 a b2 c2 hvp (fun h2 => no ?_) (fun h2 => bX7_isTopTo_37 (bX7_isTopTo_42 (Or.inr rfl) (K1 _ _ rfl ?_)))))
    · rw [hm'] at h
      have := (i_le _ 0 rfl rfl (by omega) (by decide)).mp h
      omega
    · rw [hm', nI_pred, nI_clamp (by omega), d, hS.2.1] at h
      have := (i_eq _ 2 rfl rfl (by omega) (by decide)).mp h
      intro q; omega
    · rw [hm', nI_pred, nI_clamp (by omega), d0, hS.2.2.1, nI_eq hw hu] at h2
      exact fun q => h2 q.2
    · rw [hm', nI_pred, nI_clamp (by omega), d, hS.2.1] at h
      rw [hm', nI_pred, nI_clamp (by omega), d0, hS.2.2.1, nI_eq hw hu] at h2
      have h' : k ≠ 2 := fun q => h (by subst q; rfl)
      exact ⟨by show k < 2; omega, h2⟩
theorem c_takeOff {u n ln : Nat} (hu : u < 2 ^ 31) (hn : n < 2 ^ 31) (hln : ln < 2 ^ 31) {L : Nat → Int64} {Q : Option Value → (Nat → Nat → Int32) → (Nat → Int64) → Prop} : ∀ {S : List (Nat × Nat)} {I : Nat → Nat → Int32}, cB I S → S.length ≤ 16 → (∀ p, p ∈ S → g_sg n ln p) → (∀ I', Sm [2818] I I' → cB I' (g_dw u S) → Q none I' L) → XS mX1_takeOffReached 8 [(0, .ref 43), (1, .int (nI u)), (2, .int (nI S.length))] [] I L Q := by
  intro S
  induction S with
  | nil =>
    intro I hS hl hv K
    exact bX1_takeOffReached_8 (fun _ => bX1_takeOffReached_36 (K I Sm.rf hS)) (fun h => absurd (by decide) h)
  | cons p S1 ih =>
    intro I hS hl hv K
    simp only [List.length_cons] at hl
    refine bX1_takeOffReached_8 (fun h => ?_) (fun _ => bX1_takeOffReached_12 (c_isTopTo hS (by simpa using hl) hu hv hn hln (fun p' S1' he hp => bX1_takeOffReached_20 (fun h => absurd h (by decide)) (fun _ => bX1_takeOffReached_23 (c_dropTop hS (by omega) (fun I' s1 hB => bX1_takeOffReached_30 ?_)))) (fun hd => bX1_takeOffReached_20 (fun _ => bX1_takeOffReached_36 (K I Sm.rf (by rw [hd]; exact hS))) (fun h => absurd rfl h))))
    · have := (i_le _ 0 rfl rfl (by simp; omega) (by decide)).mp h
      simp at this
    · cases he
      show XS mX1_takeOffReached 8 [(0, .ref 43), (1, .int (nI u)), (2, .int (nI (S1.length + 1) + (-1)))] [] I' L Q
      rw [pk_m1]
      refine ih hB (by omega) (fun q hq => hv q (by simp [hq])) (fun I2 s2 hB2 => K I2 (s1.tr s2) ?_)
      obtain ⟨k, w⟩ := p
      have : g_dw u ((k, w) :: S1) = g_dw u S1 := by
        show (if k < 2 ∧ w = u then g_dw u S1 else (k, w) :: S1) = g_dw u S1
        rw [if_pos hp]
      rw [this]; exact hB2
theorem g_dw_mem {u : Nat} : ∀ {S : List (Nat × Nat)} {p : Nat × Nat}, p ∈ g_dw u S → p ∈ S := by
  intro S
  induction S with
  | nil => intro p h; exact h
  | cons q S ih =>
    intro p h
    obtain ⟨k, w⟩ := q
    have e : g_dw u ((k, w) :: S) = if k < 2 ∧ w = u then g_dw u S else (k, w) :: S := rfl
    rw [e] at h
    split at h
    · exact List.mem_cons_of_mem _ (ih h)
    · exact h
theorem g_dw_len {u : Nat} : ∀ {S : List (Nat × Nat)}, (g_dw u S).length ≤ S.length := by
  intro S
  induction S with
  | nil => exact Nat.le_refl _
  | cons q S ih =>
    obtain ⟨k, w⟩ := q
    have e : g_dw u ((k, w) :: S) = if k < 2 ∧ w = u then g_dw u S else (k, w) :: S := rfl
    rw [e]
    split
    · simp; omega
    · exact Nat.le_refl _
theorem g_lh_lt {n ln u k w l : Nat} {lo hi c0 c1 seen : Nat → Nat} (hN : g_net n ln lo hi) (hs : g_sg n ln (k, w)) (h : g_lh n ln lo hi c0 c1 seen u k w = some l) : l < ln ∧ (lo l = u ∨ hi l = u) := by
  unfold g_lh at h
  by_cases hk : k = 2
  · rw [if_pos hk] at h
    split at h
    · rename_i hh
      cases h
      exact ⟨hs.2.1 hk, hh⟩
    · cases h
  · rw [if_neg hk] at h
    unfold g_nl at h
    split at h
    · rename_i v hv
      have := (g_lk_some hN).mp h
      refine ⟨this.1, ?_⟩
      omega
    · cases h
theorem c_linkAhead2 {n ln u k w : Nat} {lo hi c0 c1 seen : Nat → Nat} {S : List (Nat × Nat)} {I : Nat → Nat → Int32} {L : Nat → Int64} {Q : Option Value → (Nat → Nat → Int32) → (Nat → Int64) → Prop} (hG : cG I n ln lo hi) (hN : g_net n ln lo hi) (hC0 : cC I ln 0 c0) (hC1 : cC I ln 1 c1) (hc0 : g_cs ln c0) (hc1 : g_cs ln c1) (hu : u < n) (hseen : ∀ u, u < n → I 448 u = nI (seen u) ∧ seen u < 2 ^ 31) (hS : cB I ((k, w) :: S)) (hl : S.length < 16) (hs : g_sg n ln (k, w))
    (K : ∀ I', Sm [1088, 1152, 1216] I I' → Q (some (.int (match g_lh n ln lo hi c0 c1 seen u k w with | some l => nI l | none => g_er k))) I' L) : XS mX1_linkAhead 0 [(0, .ref 43), (1, .int (nI u))] [] I L Q := by
  have hn8 := hN.2.1
  have hln := hN.2.2.1
  have hk3 : k < 3 := hs.1
  refine bX1_linkAhead_0 (c_topWhat hS hl (bX1_linkAhead_7 (c_topKind hS hl (bX1_linkAhead_15 (fun h => ?_) (fun h => ?_)))))
  · have hk : k ≠ 2 := fun q => h (by subst q; rfl)
    have hw : w < n := hs.2.2 (by show k < 2; omega)
    refine bX1_linkAhead_39 (c_topKind hS hl (bX1_linkAhead_51 (vp_in_nI (by omega) (by decide)) ?_))
    have sn := hseen u hu
    have sn' : I 448 u = nI (seen u) := sn.1
    rw [nI_clamp (by omega), sn']
    have hC : cC I ln k (if k = 0 then c0 else c1) := by
      by_cases h0 : k = 0
      · subst h0; rw [if_pos rfl]; exact hC0
      · rw [if_neg h0, show k = 1 by omega]; exact hC1
    have hc : g_cs ln (if k = 0 then c0 else c1) := by split <;> assumption
    refine c_measure (kind := k) hG hN hC hc (by omega) sn.2 hw (fun I1 s1 hM => bX1_linkAhead_63 (c_linkAhead (by omega) ?_))
    have K' := K I1 s1
    unfold g_lh at K'
    rw [if_neg hk] at K'
    rw [(hM u hu).2.2]
    cases hh : g_nl ln lo hi u (g_nxt (g_e ln lo hi (if k = 0 then c0 else c1) (seen u)) n u w) with
    | none =>
      rw [hh] at K'
      dsimp only at K'
      unfold g_er at K'
      rw [if_neg hk] at K'
      exact bX1_linkAhead_71 (fun h => absurd rfl h) (fun _ => bX1_linkAhead_77 (bX1_linkAhead_83 K'))
    | some l =>
      rw [hh] at K'
      have hl2 : l < ln := by
        unfold g_nl at hh
        split at hh
        · exact (g_lk_lt hN hh).1
        · cases hh
      exact bX1_linkAhead_71 (fun _ => bX1_linkAhead_82 (bX1_linkAhead_83 K')) (fun h => absurd h (i_m1ne (by omega)))
  · have hk : k = 2 := (i_eq k 2 rfl rfl (by omega) (by decide)).mp h
    subst hk
    have hw : w < ln := hs.2.1 rfl
    have K' := K I Sm.rf
    unfold g_lh g_er at K'
    rw [if_pos rfl] at K'
    refine bX1_linkAhead_19 (c_otherEnd (l := w) hG hN hw (by omega) ?_)
    have hb := hN.2.2.2.1 w hw
    unfold g_oe
    by_cases h1 : lo w = u
    · rw [if_pos h1]
      rw [if_pos (Or.inl h1)] at K'
      exact bX1_linkAhead_28 (fun _ => bX1_linkAhead_37 (bX1_linkAhead_38 K')) (fun h => absurd h (i_m1ne (by omega)))
    · rw [if_neg h1]
      by_cases h2 : hi w = u
      · rw [if_pos h2]
        rw [if_pos (Or.inr h2)] at K'
        exact bX1_linkAhead_28 (fun _ => bX1_linkAhead_37 (bX1_linkAhead_38 K')) (fun h => absurd h (i_m1ne (by omega)))
      · rw [if_neg h2]
        rw [if_neg (by omega)] at K'
        exact bX1_linkAhead_28 (fun h => absurd rfl h) (fun _ => bX1_linkAhead_32 (bX1_linkAhead_38 K'))
