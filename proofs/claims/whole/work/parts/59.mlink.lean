/-! ===== the reference reads a clause of nodes, a clause of a link ===== -/
theorem nI_any (x : Int32) : ∃ z, x = nI z := ⟨x.toBitVec.toNat, by
  apply Int32.toBitVec_inj.mp
  show x.toBitVec = BitVec.ofNat 32 x.toBitVec.toNat
  rw [BitVec.ofNat_toNat, BitVec.setWidth_eq]⟩
abbrev S_rd : List Nat := [3160, 3161, 3162, 3164, 3165, 4160, 4224]
abbrev S_do : List Nat := [3160, 3161, 3162, 3164, 3165, 4160, 4224, 3136, 3137, 3200, 3264, 3392, 3144, 3147, 3149]
/-- what the reference holds of the net -/
def mSt (I : Nat → Nat → Int32) : g_St → Prop
  | (n, ln, lo, hi, c0, c1, U, seen) => mG I n ln lo hi ∧ mC I ln 0 c0 ∧ mC I ln 1 c1 ∧ I 3392 28 = nI U ∧ ∀ u, u < n → I 3392 (29 + u) = nI (seen u)
/-- what the reference has read -/
def mRd (I : Nat → Nat → Int32) : g_St → Prop
  | (n, ln, lo, hi, _, _, _, _) => I 3164 0 = nI n ∧ I 3165 0 = nI ln ∧ ∀ l, l < ln → I 4160 l = nI (lo l) ∧ I 4224 l = nI (hi l)
def mGone (I I' : Nat → Nat → Int32) (b : Bool) : Prop := (I' 3144 0 = if b = true then 0 else I 3144 0) ∧ (I' 3147 0 = if b = true then 0 else I 3147 0) ∧ (I' 3149 0 = if b = true then 0 else I 3149 0)
theorem mGone.tr {I I' I'' : Nat → Nat → Int32} {a b : Bool} (h : mGone I I' a) (h' : mGone I' I'' b) : mGone I I'' (a || b) := by
  obtain ⟨h1, h2, h3⟩ := h
  obtain ⟨g1, g2, g3⟩ := h'
  refine ⟨?_, ?_, ?_⟩
  · rw [g1, h1]; cases a <;> cases b <;> rfl
  · rw [g2, h2]; cases a <;> cases b <;> rfl
  · rw [g3, h3]; cases a <;> cases b <;> rfl
theorem mSt.sm {S : List Nat} {I I' : Nat → Nat → Int32} {σ : g_St} (h : mSt I σ) (hs : Sm S I I') (h1 : 3136 ∉ S) (h2 : 3137 ∉ S) (h3 : 3200 ∉ S) (h4 : 3264 ∉ S) (h5 : 3392 ∉ S) : mSt I' σ := by
  obtain ⟨n, ln, lo, hi, c0, c1, U, seen⟩ := σ
  obtain ⟨g1, g2, g3, g4, g5⟩ := h
  exact ⟨g1.sm hs h1 h2 h3 h4, fun l hl => by rw [hs _ h5]; exact g2 l hl, fun l hl => by rw [hs _ h5]; exact g3 l hl, by rw [hs _ h5]; exact g4, fun u hu => by rw [hs _ h5]; exact g5 u hu⟩
theorem s_readLinkOf {n ln : Nat} {lo hi : Nat → Nat} {I : Nat → Nat → Int32} {L : Nat → Int64} {Q : Option Value → (Nat → Nat → Int32) → (Nat → Int64) → Prop} {u v : Nat} (hl0 : I 3165 0 = nI ln) (hG : ∀ l, l < ln → I 4160 l = nI (lo l) ∧ I 4224 l = nI (hi l)) (hN : g_net n ln lo hi) (hu : u < 2 ^ 31) (hv : v < 2 ^ 31) (K : Q (some (.int (i_o (g_lk ln lo hi u v)))) I L) : XS mX10_readLinkOf 0 [(0, .ref 49), (1, .int (nI u)), (2, .int (nI v))] [] I L Q := by
  have hln := hN.2.2.1
  have hl0' : I 3165 0 = nI ln := hl0
  have key : ∀ k l, l + k = ln → (∀ j, j < l → g_lkp lo hi u v j = false) → XS mX10_readLinkOf 2 [(0, .ref 49), (1, .int (nI u)), (2, .int (nI v)), (3, .int (nI l))] [] I L Q := by
    intro k
    induction k with
    | zero =>
      intro l hl hj
      refine bX10_readLinkOf_2 (fun _ => bX10_readLinkOf_58 ?_) (fun h => ?_)
      · have : g_lk ln lo hi u v = none := g_fst_none.mpr (fun i hi => hj i (by omega))
        rw [this] at K; exact K
      · rw [hl0', nI_leI (by omega) (by omega)] at h; omega
    | succ k ih =>
      intro l hl hj
      have hb := hN.2.2.2.1 l (by omega)
      have hn := hN.2.1
      obtain ⟨e1, e2⟩ := hG l (by omega)
      have e1' : I 4160 l = nI (lo l) := e1
      have e2' : I 4224 l = nI (hi l) := e2
      have hvp : vp_in (nI l) 14 := vp_in_nI (by omega) (by decide)
      have next : g_lkp lo hi u v l = false → XS mX10_readLinkOf 52 [(0, .ref 49), (1, .int (nI u)), (2, .int (nI v)), (3, .int (nI l))] [] I L Q := fun hf => by
        refine bX10_readLinkOf_52 ?_
        rw [nI_1]
        refine ih (l + 1) (by omega) (fun j hj' => ?_)
        by_cases hjl : j = l
        · subst hjl; exact hf
        · exact hj j (by omega)
      have found : g_lkp lo hi u v l = true → XS mX10_readLinkOf 50 [(3, .int (nI l))] [] I L Q := fun ht => by
        refine bX10_readLinkOf_50 ?_
        have : g_lk ln lo hi u v = some l := g_fst_some.mpr ⟨by omega, ht, hj⟩
        rw [this] at K; exact K
      have second : ¬ (lo l = u ∧ hi l = v) → XS mX10_readLinkOf 30 [(0, .ref 49), (1, .int (nI u)), (2, .int (nI v)), (3, .int (nI l))] [] I L Q := fun hno => by
        refine bX10_readLinkOf_30 hvp (fun h => ?_) (fun h => bX10_readLinkOf_40 hvp (fun h' => ?_) (fun h' => ?_))
        · rw [nI_clamp (by omega), e1', nI_eq (by omega) (by omega)] at h
          exact next (by rw [Bool.eq_false_iff, ne_eq, g_lkp_iff]; omega)
        · rw [nI_clamp (by omega), e1', nI_eq (by omega) (by omega)] at h
          rw [nI_clamp (by omega), e2', nI_eq (by omega) (by omega)] at h'
          exact next (by rw [Bool.eq_false_iff, ne_eq, g_lkp_iff]; omega)
        · rw [nI_clamp (by omega), e1', nI_eq (by omega) (by omega)] at h
          rw [nI_clamp (by omega), e2', nI_eq (by omega) (by omega)] at h'
          exact found (by rw [g_lkp_iff]; omega)
      refine bX10_readLinkOf_2 (fun h => ?_) (fun _ => bX10_readLinkOf_10 hvp (fun h => ?_) (fun h => bX10_readLinkOf_20 hvp (fun h' => ?_) (fun h' => ?_)))
      · rw [hl0', nI_leI (by omega) (by omega)] at h; omega
      · rw [nI_clamp (by omega), e1', nI_eq (by omega) (by omega)] at h
        exact second (by omega)
      · rw [nI_clamp (by omega), e1', nI_eq (by omega) (by omega)] at h
        rw [nI_clamp (by omega), e2', nI_eq (by omega) (by omega)] at h'
        exact found (by rw [g_lkp_iff]; omega)
      · rw [nI_clamp (by omega), e2', nI_eq (by omega) (by omega)] at h'
        exact second (by omega)
  refine bX10_readLinkOf_0 ?_
  exact key ln 0 (by omega) (fun j hj => by omega)
theorem s_readsNodes {σ : g_St} {T : Nat → Nat} {len i : Nat} {D : Bool} {I : Nat → Nat → Int32} {L : Nat → Int64} {Q : Option Value → (Nat → Nat → Int32) → (Nat → Int64) → Prop} (hT : mT I T len) (hile : i ≤ len) (he : I 3160 0 = nI i) (hf : I 3162 0 = 0) (hD : I 3163 0 = i_b D)
    (K0 : ∀ I' p, Sm S_rd I I' → g_cln T len i = .inl p → I' 3162 0 = 1 → I' 3160 0 = nI p → Q none I' L)
    (K1 : ∀ I' cl e, Sm S_do I I' → (D = false → Sm S_rd I I') → g_cln T len i = .inr (cl, e) → I' 3162 0 = 0 → I' 3160 0 = nI e → mRd I' (g_ap σ cl) → (D = true → mSt I' (g_ap σ cl) ∧ mGone I I' (g_isN cl)) → Q none I' L) :
    XS mX10_readsNodes 0 [(0, .ref 49)] [] I L Q := by
  obtain ⟨n, ln, lo, hi, c0, c1, U, seen⟩ := σ
  refine bX10_readsNodes_0 (s_figure0 (a := 2) (b := 8) hT hile he hf (by decide) (by decide) (fun I1 r s1 hn a1 a2 => ?_) (fun I1 y s1 hn a1 a2 => ?_))
  · refine bX10_readsNodes_7 (fun h => absurd (a1.symm.trans h) (by decide)) (fun _ => bX10_readsNodes_15 (K0 I1 (g_P T len i) (s1.mono (by decide)) ?_ a1 a2))
    unfold g_cln; rw [hn]
  · have hy := g_nu_lt hn
    have hcl : g_cln T len i = .inr (.inl y, g_Z T len i) := by unfold g_cln; rw [hn]
    have sA : Sm S_rd I (x_up (x_up I1 3164 0 (nI y)) 3165 0 0) := ((s1.mono (by decide)).up (by decide)).up (by decide)
    have d1 : (x_up (x_up I1 3164 0 (nI y)) 3165 0 0) 3163 0 = i_b D := by rw [sA 3163 (by decide)]; exact hD
    have f1 : (x_up (x_up I1 3164 0 (nI y)) 3165 0 0) 3162 0 = 0 := by rw [x_up_ne (by decide), x_up_ne (by decide)]; exact a1
    have r1 : (x_up (x_up I1 3164 0 (nI y)) 3165 0 0) 3160 0 = nI (g_Z T len i) := by rw [x_up_ne (by decide), x_up_ne (by decide)]; exact a2
    have n1 : (x_up (x_up I1 3164 0 (nI y)) 3165 0 0) 3164 0 = nI y := by rw [x_up_ne (by decide), x_up_at]
    have l1 : (x_up (x_up I1 3164 0 (nI y)) 3165 0 0) 3165 0 = nI 0 := by rw [x_up_at]; rfl
    have hgo := @bX10_readsNodes_16 I1 L Q (nI y)
    revert hgo
    generalize (x_up (x_up I1 3164 0 (nI y)) 3165 0 0) = I2 at sA d1 f1 r1 n1 l1 ⊢
    intro hgo
    refine bX10_readsNodes_7 (fun _ => hgo (fun h => bX10_readsNodes_90 ?_) (fun h => bX10_readsNodes_33 ?_)) (fun h => absurd a1 h)
    · rw [d1, i_b0] at h
      exact K1 I2 (.inl y) _ (sA.mono (by decide)) (fun _ => sA) hcl f1 r1 ⟨n1, l1, fun l hl => by omega⟩ (fun q => by rw [h] at q; cases q)
    · rw [d1, i_b0] at h
      have hDt : D = true := by simpa using h
      have sB : Sm [3136, 3137, 3144, 3147, 3149, 3392] I2 (x_up (x_up (x_up (x_up (x_up (x_up I2 3136 0 (nI y)) 3137 0 0) 3144 0 0) 3147 0 0) 3149 0 0) 3392 28 0) := (((((Sm.rf.up (by decide)).up (by decide)).up (by decide)).up (by decide)).up (by decide)).up (by decide)
      have b1 : (x_up (x_up (x_up (x_up (x_up (x_up I2 3136 0 (nI y)) 3137 0 0) 3144 0 0) 3147 0 0) 3149 0 0) 3392 28 0) 3136 0 = nI y := by rw [x_up_ne (by decide), x_up_ne (by decide), x_up_ne (by decide), x_up_ne (by decide), x_up_ne (by decide), x_up_at]
      have b2 : (x_up (x_up (x_up (x_up (x_up (x_up I2 3136 0 (nI y)) 3137 0 0) 3144 0 0) 3147 0 0) 3149 0 0) 3392 28 0) 3137 0 = nI 0 := by rw [x_up_ne (by decide), x_up_ne (by decide), x_up_ne (by decide), x_up_ne (by decide), x_up_at]; rfl
      have b3 : (x_up (x_up (x_up (x_up (x_up (x_up I2 3136 0 (nI y)) 3137 0 0) 3144 0 0) 3147 0 0) 3149 0 0) 3392 28 0) 3144 0 = 0 := by rw [x_up_ne (by decide), x_up_ne (by decide), x_up_ne (by decide), x_up_at]
      have b4 : (x_up (x_up (x_up (x_up (x_up (x_up I2 3136 0 (nI y)) 3137 0 0) 3144 0 0) 3147 0 0) 3149 0 0) 3392 28 0) 3147 0 = 0 := by rw [x_up_ne (by decide), x_up_ne (by decide), x_up_at]
      have b5 : (x_up (x_up (x_up (x_up (x_up (x_up I2 3136 0 (nI y)) 3137 0 0) 3144 0 0) 3147 0 0) 3149 0 0) 3392 28 0) 3149 0 = 0 := by rw [x_up_ne (by decide), x_up_at]
      have b6 : (x_up (x_up (x_up (x_up (x_up (x_up I2 3136 0 (nI y)) 3137 0 0) 3144 0 0) 3147 0 0) 3149 0 0) 3392 28 0) 3392 28 = nI 0 := by rw [x_up_at]; rfl
      generalize (x_up (x_up (x_up (x_up (x_up (x_up I2 3136 0 (nI y)) 3137 0 0) 3144 0 0) 3147 0 0) 3149 0 0) 3392 28 0) = I3 at sB b1 b2 b3 b4 b5 b6 ⊢
      have loop : ∀ k w I4, w + k = 8 → Sm [3392] I3 I4 → I4 3392 28 = nI 0 → (∀ x, x < w → I4 3392 (29 + x) = nI 0) → XS mX10_readsNodes 68 [(0, .ref 49), (2, .int (nI w))] [] I4 L Q := by
        intro k
        induction k with
        | zero =>
          intro w I4 hw s4 c1 c2
          refine bX10_readsNodes_68 (fun _ => bX10_readsNodes_90 ?_) (fun h2 => absurd ((i_le 8 w rfl rfl (by decide) (by omega)).mpr (by omega)) h2)
          have sC := sB.tr (s4.mono (by decide))
          refine K1 I4 (.inl y) _ ((sA.mono (by decide)).tr (sC.mono (by decide))) (fun q => by rw [hDt] at q; cases q) hcl ?_ ?_ ⟨?_, ?_, fun l hl => by omega⟩ (fun _ => ⟨⟨⟨?_, ?_, fun l hl => by omega⟩, fun l hl => by omega, fun l hl => by omega, c1, fun u hu => c2 u (by have : u < y := hu; omega)⟩, ?_, ?_, ?_⟩)
          · rw [sC _ (by decide)]; exact f1
          · rw [sC _ (by decide)]; exact r1
          · rw [sC _ (by decide)]; exact n1
          · rw [sC _ (by decide)]; exact l1
          · rw [s4 _ (by decide)]; exact b1
          · rw [s4 _ (by decide)]; exact b2
          · rw [s4 _ (by decide)]; exact b3
          · rw [s4 _ (by decide)]; exact b4
          · rw [s4 _ (by decide)]; exact b5
        | succ k ih =>
          intro w I4 hw s4 c1 c2
          refine bX10_readsNodes_68 (fun h2 => ?_) (fun _ => bX10_readsNodes_74 (i_vp (29 + w) (nI_add 29 w) (by omega) (by decide)) ?_)
          · have := (i_le 8 w rfl rfl (by decide) (by omega)).mp h2; omega
          · rw [i_cl (x := (29 : Int32) + nI w) (29 + w) (nI_add 29 w) (by omega), nI_1]
            refine ih (w + 1) _ (by omega) (s4.up (by decide)) (by rw [x_up_off (by omega)]; exact c1) (fun x hx => ?_)
            by_cases hxw : x = w
            · subst hxw; rw [x_up_at]; rfl
            · rw [x_up_off (by omega)]; exact c2 x (by omega)
      exact loop 8 0 I3 (by omega) Sm.rf b6 (fun x hx => by omega)
