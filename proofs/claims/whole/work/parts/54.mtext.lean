/-! ===== the reference's tokens ===== -/
def mT (I : Nat → Nat → Int32) (T : Nat → Nat) (len : Nat) : Prop := I 3159 0 = nI len ∧ g_tx 4096 I T len
theorem mT.sm {I I' : Nat → Nat → Int32} {T : Nat → Nat} {len : Nat} {S : List Nat} (h : mT I T len) (hs : Sm S I I') (h1 : 3159 ∉ S) (h2 : 4096 ∉ S) : mT I' T len :=
  ⟨by rw [hs _ h1]; exact h.1, h.2.1, fun j hj => by rw [hs _ h2]; exact h.2.2 j hj⟩
theorem s_isLetter {T : Nat → Nat} {len j : Nat} {I : Nat → Nat → Int32} {L : Nat → Int64} {Q : Option Value → (Nat → Nat → Int32) → (Nat → Int64) → Prop} (hT : mT I T len) (hj : j < 2 ^ 30) (K : Q (some (.int (i_b (decide (j < len ∧ g_rw (T j) = 1))))) I L) : XS mX10_isLetter 0 [(0, .ref 49), (1, .int (nI j))] [] I L Q := by
  have hl := hT.2.1
  have ht : I 3159 0 = nI len := hT.1
  refine bX10_isLetter_0 (fun h => bX10_isLetter_28 (bX10_isLetter_29 (Or.inl rfl) ?_)) (fun h => ?_)
  · rw [ht, nI_leI (by omega) (by omega)] at h
    rw [decide_eq_false (by omega)] at K; exact K
  · rw [ht, nI_leI (by omega) (by omega)] at h
    have hx := hT.2.2 j (by omega)
    have hx1 : I 4096 j = nI (T j) := hx.1
    refine bX10_isLetter_8 (vp_in_nI (by omega) (by decide)) ?_
    rw [nI_clamp (by omega), hx1]
    have h97 : (nI (T j) < (97 : Int32)) ↔ T j < 97 := i_lt _ 97 rfl rfl (by omega) (by decide)
    have h122 : ((122 : Int32) < nI (T j)) ↔ 122 < T j := i_lt 122 _ rfl rfl (by decide) (by omega)
    refine s_in (a := 0) (b := 0) (c := 0) (decide (g_rw (T j) = 1)) ?_ ?_
    · rw [decide_eq_true_eq, h97, h122]
      unfold g_rw
      constructor
      · intro q
        by_cases hc : 97 ≤ T j ∧ T j ≤ 122
        · omega
        · rw [if_neg hc] at q
          split at q <;> omega
      · intro q
        rw [if_pos (by omega)]
    · cases hd : decide (g_rw (T j) = 1) with
      | true =>
        rw [decide_eq_true_eq] at hd
        rw [decide_eq_true ⟨by omega, hd⟩] at K
        exact bX10_isLetter_21 (fun h => absurd h (by decide)) (fun _ => bX10_isLetter_24 (bX10_isLetter_29 (Or.inr rfl) K))
      | false =>
        rw [decide_eq_false_iff_not] at hd
        rw [decide_eq_false (fun q => hd q.2)] at K
        exact bX10_isLetter_21 (fun _ => bX10_isLetter_28 (bX10_isLetter_29 (Or.inl rfl) K)) (fun h => absurd rfl h)
theorem s_isFigure {T : Nat → Nat} {len j : Nat} {I : Nat → Nat → Int32} {L : Nat → Int64} {Q : Option Value → (Nat → Nat → Int32) → (Nat → Int64) → Prop} (hT : mT I T len) (hj : j < 2 ^ 30) (K : Q (some (.int (i_b (decide (j < len ∧ g_rw (T j) = 2))))) I L) : XS mX10_isFigure 0 [(0, .ref 49), (1, .int (nI j))] [] I L Q := by
  have hl := hT.2.1
  have ht : I 3159 0 = nI len := hT.1
  refine bX10_isFigure_0 (fun h => bX10_isFigure_28 (bX10_isFigure_29 (Or.inl rfl) ?_)) (fun h => ?_)
  · rw [ht, nI_leI (by omega) (by omega)] at h
    rw [decide_eq_false (by omega)] at K; exact K
  · rw [ht, nI_leI (by omega) (by omega)] at h
    have hx := hT.2.2 j (by omega)
    have hx1 : I 4096 j = nI (T j) := hx.1
    refine bX10_isFigure_8 (vp_in_nI (by omega) (by decide)) ?_
    rw [nI_clamp (by omega), hx1]
    have h48 : (nI (T j) < (48 : Int32)) ↔ T j < 48 := i_lt _ 48 rfl rfl (by omega) (by decide)
    have h57 : ((57 : Int32) < nI (T j)) ↔ 57 < T j := i_lt 57 _ rfl rfl (by decide) (by omega)
    refine s_in (a := 0) (b := 0) (c := 0) (decide (g_rw (T j) = 2)) ?_ ?_
    · rw [decide_eq_true_eq, h48, h57]
      unfold g_rw
      constructor
      · intro q
        by_cases hc : 97 ≤ T j ∧ T j ≤ 122
        · rw [if_pos hc] at q; omega
        · rw [if_neg hc] at q
          split at q <;> omega
      · intro q
        rw [if_neg (by omega), if_pos (by omega)]
    · cases hd : decide (g_rw (T j) = 2) with
      | true =>
        rw [decide_eq_true_eq] at hd
        rw [decide_eq_true ⟨by omega, hd⟩] at K
        exact bX10_isFigure_21 (fun h => absurd h (by decide)) (fun _ => bX10_isFigure_24 (bX10_isFigure_29 (Or.inr rfl) K))
      | false =>
        rw [decide_eq_false_iff_not] at hd
        rw [decide_eq_false (fun q => hd q.2)] at K
        exact bX10_isFigure_21 (fun _ => bX10_isFigure_28 (bX10_isFigure_29 (Or.inl rfl) K)) (fun h => absurd rfl h)
def mTk (I : Nat → Nat → Int32) (p e : Nat) : Prop := I 3160 0 = nI p ∧ I 3161 0 = nI (e - p)
theorem s_looks {T : Nat → Nat} {len i : Nat} {I : Nat → Nat → Int32} {L : Nat → Int64} {Q : Option Value → (Nat → Nat → Int32) → (Nat → Int64) → Prop} (hT : mT I T len) (hi : i ≤ len) (he : I 3160 0 = nI i) (K : ∀ I', Sm [3160, 3161] I I' → mTk I' (g_P T len i) (g_Z T len i) → Q (some (.int (if g_P T len i < len then nI (T (g_P T len i)) else -1))) I' L) : XS mX10_looks 0 [(0, .ref 49)] [] I L Q := by
  have hl := hT.2.1
  have z := g_PZ (T := T) hi
  -- behind the blanks
  have fin : ∀ I1, Sm [3160, 3161] I I1 → mTk I1 (g_P T len i) (g_Z T len i) → XS mX10_looks 125 [(0, .ref 49)] [] I1 L Q := by
    intro I1 s1 hk
    have K' := K I1 s1 hk
    have hT1 : mT I1 T len := hT.sm s1 (by decide) (by decide)
    refine bX10_looks_125 (fun h => bX10_looks_148 (bX10_looks_149 ?_)) (fun h => ?_)
    · rw [show I1 3159 0 = nI len from hT1.1, show I1 3160 0 = nI (g_P T len i) from hk.1, nI_leI (by omega) (by omega)] at h
      rw [if_neg (by omega)] at K'; exact K'
    · rw [show I1 3159 0 = nI len from hT1.1, show I1 3160 0 = nI (g_P T len i) from hk.1, nI_leI (by omega) (by omega)] at h
      rw [if_pos (by omega)] at K'
      have hx := hT1.2.2 (g_P T len i) (by omega)
      refine bX10_looks_136 (by rw [show I1 3160 0 = nI (g_P T len i) from hk.1]; exact vp_in_nI (by omega) (by decide)) (bX10_looks_149 ?_)
      rw [show I1 3160 0 = nI (g_P T len i) from hk.1, nI_clamp (by omega), show I1 4096 (g_P T len i) = nI (T (g_P T len i)) from hx.1]
      exact K'
  have token : ∀ I1, Sm [3160, 3161] I I1 → I1 3160 0 = nI (g_P T len i) → XS mX10_looks 38 [(0, .ref 49)] [] I1 L Q := by
    intro I1 s1 hp
    have hT1 : mT I1 T len := hT.sm s1 (by decide) (by decide)
    have hp' : I1 3160 0 = nI (g_P T len i) := hp
    have hZ : g_Z T len i = g_tend T len (g_P T len i) := rfl
    generalize hPd : g_P T len i = p at *
    refine bX10_looks_38 (fun h => bX10_looks_54 (bX10_looks_55 ?_)) (fun h => bX10_looks_50 (bX10_looks_55 ?_))
    · rw [show I1 3159 0 = nI len from hT1.1, hp', nI_leI (by omega) (by omega)] at h
      have hZp : g_Z T len i = p := by rw [hZ]; unfold g_tend; rw [if_pos (by omega)]
      have s2 : Sm [3160, 3161] I (x_up I1 3161 0 0) := s1.up (by decide)
      have hT2 : mT (x_up I1 3161 0 0) T len := hT.sm s2 (by decide) (by decide)
      have a1 : (x_up I1 3161 0 0) 3160 0 = nI p := by rw [x_up_ne (by decide)]; exact hp'
      have a2 : (x_up I1 3161 0 0) 3161 0 = nI 0 := by rw [x_up_at]; rfl
      generalize (x_up I1 3161 0 0) = I2 at s2 hT2 a1 a2 ⊢
      refine bX10_looks_58 ?_
      rw [a1]
      refine s_isLetter hT2 (by omega) ?_
      rw [decide_eq_false (by omega)]
      refine bX10_looks_66 (fun _ => bX10_looks_85 ?_) (fun h => absurd rfl h)
      rw [a1]
      refine s_isFigure hT2 (by omega) ?_
      rw [decide_eq_false (by omega)]
      refine bX10_looks_93 (fun _ => fin I2 s2 ⟨a1, ?_⟩) (fun h => absurd rfl h)
      rw [hZp, Nat.sub_self]; exact a2
    · rw [show I1 3159 0 = nI len from hT1.1, hp', nI_leI (by omega) (by omega)] at h
      have loop : ∀ f q I2, q + f = len → p < q → Sm [3160, 3161] I I2 → I2 3160 0 = nI p → I2 3161 0 = nI (q - p) → (g_rw (T p) ≠ 0 → g_run T (g_rw (T p)) f q = g_Z T len i) → (g_rw (T p) = 0 → q = g_Z T len i) → XS mX10_looks 58 [(0, .ref 49)] [] I2 L Q := by
        intro f
        induction f with
        | zero =>
          intro q I2 hq hpq s2 a1 a2 hrun hrun0
          have hT2 : mT I2 T len := hT.sm s2 (by decide) (by decide)
          have hZq : q = g_Z T len i := by
            by_cases h0 : g_rw (T p) = 0
            · exact hrun0 h0
            · have e := hrun h0
              have e' : g_run T (g_rw (T p)) 0 q = q := rfl
              rw [e'] at e; exact e
          have hix : nI p + nI (q - p) = nI q := by rw [nI_add, show p + (q - p) = q by omega]
          have out : XS mX10_looks 125 [(0, .ref 49)] [] I2 L Q := fin I2 s2 ⟨a1, by rw [← hZq]; exact a2⟩
          have fig : XS mX10_looks 85 [(0, .ref 49)] [] I2 L Q := by
            refine bX10_looks_85 ?_
            rw [a1]
            refine s_isFigure hT2 (by omega) (bX10_looks_93 (fun _ => out) (fun _ => bX10_looks_96 ?_))
            rw [a1, a2, hix]
            refine s_isFigure hT2 (by omega) ?_
            rw [decide_eq_false (by omega)]
            exact bX10_looks_109 (fun _ => out) (fun h => absurd rfl h)
          refine bX10_looks_58 ?_
          rw [a1]
          refine s_isLetter hT2 (by omega) (bX10_looks_66 (fun _ => fig) (fun _ => bX10_looks_69 ?_))
          rw [a1, a2, hix]
          refine s_isLetter hT2 (by omega) ?_
          rw [decide_eq_false (by omega)]
          exact bX10_looks_82 (fun h => absurd rfl h) (fun _ => fig)
        | succ f ih =>
          intro q I2 hq hpq s2 a1 a2 hrun hrun0
          have hT2 : mT I2 T len := hT.sm s2 (by decide) (by decide)
          have e : g_run T (g_rw (T p)) (f + 1) q = if g_rw (T q) = g_rw (T p) then g_run T (g_rw (T p)) f (q + 1) else q := rfl
          have hix : nI p + nI (q - p) = nI q := by rw [nI_add, show p + (q - p) = q by omega]
          have out : (g_rw (T p) = 0 ∨ g_rw (T q) ≠ g_rw (T p)) → XS mX10_looks 125 [(0, .ref 49)] [] I2 L Q := fun ho => fin I2 s2 ⟨a1, by
            have : q = g_Z T len i := by
              by_cases h0 : g_rw (T p) = 0
              · exact hrun0 h0
              · have e2 := hrun h0
                rw [e, if_neg (by rcases ho with ho | ho; exact absurd ho h0; exact ho)] at e2
                exact e2
            rw [← this]; exact a2⟩
          have more : g_rw (T p) ≠ 0 → g_rw (T q) = g_rw (T p) → XS mX10_looks 112 [(0, .ref 49)] [] I2 L Q := fun h0 hm => by
            refine bX10_looks_112 ?_
            rw [a2, nI_1]
            refine ih (q + 1) _ (by omega) (by omega) (s2.up (by decide)) (by rw [x_up_ne (by decide)]; exact a1) (by rw [x_up_at, show q + 1 - p = q - p + 1 by omega]) (fun _ => ?_) (fun z0 => absurd z0 h0)
            have e2 := hrun h0
            rw [e, if_pos hm] at e2
            exact e2
          have fig : g_rw (T p) ≠ 1 ∨ g_rw (T q) ≠ 1 → XS mX10_looks 85 [(0, .ref 49)] [] I2 L Q := fun hn1 => by
            refine bX10_looks_85 ?_
            rw [a1]
            refine s_isFigure hT2 (by omega) ?_
            cases hd : decide (p < len ∧ g_rw (T p) = 2) with
            | false =>
              rw [decide_eq_false_iff_not] at hd
              refine bX10_looks_93 (fun _ => out ?_) (fun h => absurd rfl h)
              have hr := g_rw_lt (T p)
              have h2 : g_rw (T p) ≠ 2 := fun q => hd ⟨by omega, q⟩
              by_cases h1 : g_rw (T p) = 1
              · exact Or.inr (by rcases hn1 with q | q; exact absurd h1 q; rw [h1]; exact q)
              · exact Or.inl (by omega)
            | true =>
              rw [decide_eq_true_eq] at hd
              refine bX10_looks_93 (fun h => absurd h (by decide)) (fun _ => bX10_looks_96 ?_)
              rw [a1, a2, hix]
              refine s_isFigure hT2 (by omega) ?_
              cases hd2 : decide (q < len ∧ g_rw (T q) = 2) with
              | true =>
                rw [decide_eq_true_eq] at hd2
                exact bX10_looks_109 (fun h => absurd h (by decide)) (fun _ => more (by omega) (by rw [hd.2, hd2.2]))
              | false =>
                rw [decide_eq_false_iff_not] at hd2
                exact bX10_looks_109 (fun _ => out (Or.inr (by rw [hd.2]; exact fun q2 => hd2 ⟨by omega, q2⟩))) (fun h => absurd rfl h)
          refine bX10_looks_58 ?_
          rw [a1]
          refine s_isLetter hT2 (by omega) ?_
          cases hd : decide (p < len ∧ g_rw (T p) = 1) with
          | false =>
            rw [decide_eq_false_iff_not] at hd
            exact bX10_looks_66 (fun _ => fig (Or.inl (fun q => hd ⟨by omega, q⟩))) (fun h => absurd rfl h)
          | true =>
            rw [decide_eq_true_eq] at hd
            refine bX10_looks_66 (fun h => absurd h (by decide)) (fun _ => bX10_looks_69 ?_)
            rw [a1, a2, hix]
            refine s_isLetter hT2 (by omega) ?_
            cases hd2 : decide (q < len ∧ g_rw (T q) = 1) with
            | true =>
              rw [decide_eq_true_eq] at hd2
              exact bX10_looks_82 (fun _ => more (by omega) (by rw [hd.2, hd2.2])) (fun h => absurd h (by decide))
            | false =>
              rw [decide_eq_false_iff_not] at hd2
              exact bX10_looks_82 (fun h => absurd rfl h) (fun _ => fig (Or.inr (fun q2 => hd2 ⟨by omega, q2⟩)))
      refine loop (len - (p + 1)) (p + 1) _ (by omega) (by omega) (s1.up (by decide)) (by rw [x_up_ne (by decide)]; exact hp') (by rw [x_up_at, show p + 1 - p = 1 by omega]; rfl) (fun h0 => ?_) (fun h0 => ?_)
      · rw [hZ]; unfold g_tend; rw [if_neg (by omega), if_neg h0]
      · rw [hZ]; unfold g_tend; rw [if_neg (by omega), if_pos h0]
  -- the blanks
  have blanks : ∀ f q I1, q + f = len → Sm [3160, 3161] I I1 → I1 3160 0 = nI q → g_sb T f q = g_P T len i → XS mX10_looks 0 [(0, .ref 49)] [] I1 L Q := by
    intro f
    induction f with
    | zero =>
      intro q I1 hq s1 a1 hsb
      have hT1 : mT I1 T len := hT.sm s1 (by decide) (by decide)
      have e : g_sb T 0 q = q := rfl
      rw [e] at hsb
      refine bX10_looks_0 (fun _ => token I1 s1 (by rw [← hsb]; exact a1)) (fun h => ?_)
      rw [show I1 3159 0 = nI len from hT1.1, a1, nI_leI (by omega) (by omega)] at h; omega
    | succ f ih =>
      intro q I1 hq s1 a1 hsb
      have hT1 : mT I1 T len := hT.sm s1 (by decide) (by decide)
      have e : g_sb T (f + 1) q = if T q = 32 then g_sb T f (q + 1) else q := rfl
      rw [e] at hsb
      have hx := hT1.2.2 q (by omega)
      have hx1 : I1 4096 q = nI (T q) := hx.1
      refine bX10_looks_0 (fun h => ?_) (fun _ => bX10_looks_11 (by rw [a1]; exact vp_in_nI (by omega) (by decide)) (fun h => token I1 s1 ?_) (fun h => bX10_looks_25 ?_))
      · rw [show I1 3159 0 = nI len from hT1.1, a1, nI_leI (by omega) (by omega)] at h; omega
      · rw [a1, nI_clamp (by omega), hx1] at h
        rw [if_neg (fun q2 => h (by rw [q2]; rfl))] at hsb
        rw [← hsb]; exact a1
      · rw [a1, nI_clamp (by omega), hx1] at h
        have := (i_eq _ 32 rfl rfl (by omega) (by decide)).mp h
        rw [if_pos this] at hsb
        rw [a1, nI_1]
        exact ih (q + 1) _ (by omega) (s1.up (by decide)) (by rw [x_up_at]) hsb
  exact blanks (len - i) i I (by omega) Sm.rf he rfl
