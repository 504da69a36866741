/-! ===== the class tells ===== -/
theorem c_tnum {t k : Nat} {I : Nat → Nat → Int32} {L : Nat → Int64} {Q : Option Value → (Nat → Nat → Int32) → (Nat → Int64) → Prop} (ht : t < 24) (hk : k < 4) (K : Q (some (.int (I 640 (4 * t + k)))) I L) : XS mX8_told 0 [(0, .ref 8), (1, .int (nI t)), (2, .int (nI k))] [] I L Q := by
  have e : nI t * (4 : Int32) + nI k = nI (4 * t + k) := by
    rw [show nI t * (4 : Int32) = nI (t * 4) from pk_mul t 4, Nat.mul_comm, nI_add]
  refine bX8_told_0 (by rw [e]; exact vp_in_nI (by omega) (by decide)) ?_
  rw [e, nI_clamp (by omega)]
  exact K
def g_isN : g_Cl → Bool
  | .inl _ => true
  | .inr _ => false
def g_an (C : List g_Cl) : Bool := C.any g_isN
/-- list, trace and protection as they stand, or gone -/
def cGone (I I' : Nat → Nat → Int32) (b : Bool) : Prop := (I' 1666 0 = if b = true then 0 else I 1666 0) ∧ (I' 1857 0 = if b = true then 0 else I 1857 0) ∧ (I' 2757 0 = if b = true then 0 else I 2757 0)
theorem cGone.tr {I I' I'' : Nat → Nat → Int32} {a b : Bool} (h : cGone I I' a) (h' : cGone I' I'' b) : cGone I I'' (a || b) := by
  obtain ⟨h1, h2, h3⟩ := h
  obtain ⟨g1, g2, g3⟩ := h'
  refine ⟨?_, ?_, ?_⟩
  · rw [g1, h1]; cases a <;> cases b <;> rfl
  · rw [g2, h2]; cases a <;> cases b <;> rfl
  · rw [g3, h3]; cases a <;> cases b <;> rfl
theorem c_doClause {σ : g_St} {t : Nat} {cl : g_Cl} {I : Nat → Nat → Int32} {L : Nat → Int64} {Q : Option Value → (Nat → Nat → Int32) → (Nat → Int64) → Prop} (ht : t < 24) (hS : cSt I σ) (hok : g_okS σ) (hn : cNum I t cl) (hc : g_clok σ.1 cl) (hE : (g_nxE (g_El σ.2.1 σ.2.2.1 σ.2.2.2.1) cl).length ≤ 14)
    (K : ∀ I', Sm [64, 128, 192, 66, 448, 65, 256, 320, 1666, 1857, 2757] I I' → cSt I' (g_ap σ cl) → cGone I I' (g_isN cl) → Q none I' L) :
    XS mX9_doClause 0 [(0, .ref 0), (1, .int (nI t))] [] I L Q := by
  cases cl with
  | inl k =>
    obtain ⟨n1, n2⟩ := hn
    have hk : 2 ≤ k ∧ k ≤ 8 := hc
    refine bX9_doClause_0 (bX8_tellsNodes_0 (c_tnum (k := 1) ht (by decide) (bX8_tellsNodes_6 (fun h => absurd n2 h) (fun _ => bX8_tellsNodes_10 (bX8_tellsNodes_15 (Or.inr rfl) (bX9_doClause_8 (fun h => absurd h (by decide)) (fun _ => bX9_doClause_11 (c_tnum (k := 0) ht (by decide) ?_))))))))
    rw [Nat.add_zero, n1]
    refine bX9_doClause_24 (c_startAnew (fun I1 s1 a1 a2 a3 a4 => bX9_doClause_27 (bX9_doClause_97 ?_)))
    obtain ⟨n, ln, lo, hi, c0, c1, U, seen⟩ := σ
    have s2 : Sm [1666, 1857, 2757] I1 (x_up (x_up (x_up I1 1666 0 0) 1857 0 0) 2757 0 0) := ((Sm.rf.up (by decide)).up (by decide)).up (by decide)
    refine K _ ((s1.mono (by decide)).tr (s2.mono (by decide))) ⟨⟨by rw [s2 _ (by decide)]; exact a1, by rw [s2 _ (by decide)]; exact a2, fun l hl => by omega⟩, fun l hl => by omega, fun l hl => by omega, by rw [s2 _ (by decide)]; exact a3, fun u hu => ?_⟩ ⟨?_, ?_, ?_⟩
    · rw [s2 _ (by decide)]
      exact a4 u (by have : u < k := hu; omega)
    · rw [x_up_ne (by decide), x_up_ne (by decide), x_up_at]; rfl
    · rw [x_up_ne (by decide), x_up_at]; rfl
    · rw [x_up_at]; rfl
  | inr q =>
    obtain ⟨u, v, c, d⟩ := q
    obtain ⟨n1, n2, n3, n4⟩ := hn
    have hvb : v < 2 ^ 31 := by
      obtain ⟨n, ln, lo, hi, c0, c1, U, seen⟩ := σ
      obtain ⟨k1, k2, _⟩ : u < n ∧ v < n ∧ u ≠ v ∧ 1 ≤ c ∧ c ≤ 9 ∧ 1 ≤ d ∧ d ≤ 9 := hc
      have := hok.1.2.1
      omega
    have hne : ¬ I 640 (4 * t + 1) = -1 := by rw [n2]; exact i_m1ne hvb
    refine bX9_doClause_0 (bX8_tellsNodes_0 (c_tnum (k := 1) ht (by decide) (bX8_tellsNodes_6 (fun _ => bX8_tellsNodes_14 (bX8_tellsNodes_15 (Or.inl rfl) (bX9_doClause_8 (fun _ => bX9_doClause_54 (c_tnum (k := 0) ht (by decide) ?_)) (fun h => absurd rfl h)))) (fun h => absurd h hne))))
    rw [Nat.add_zero, n1]
    refine bX9_doClause_67 (c_tnum (k := 1) ht (by decide) ?_)
    rw [n2]
    refine bX9_doClause_76 (c_tnum (k := 2) ht (by decide) ?_)
    rw [n3]
    refine bX9_doClause_85 (c_tnum (k := 3) ht (by decide) ?_)
    rw [n4]
    refine bX9_doClause_94 (c_putLink hS hok hc hE (fun I1 s1 h1 => bX9_doClause_97 (K I1 (s1.mono (by decide)) h1 ⟨?_, ?_, ?_⟩)))
    · rw [s1 _ (by decide)]; rfl
    · rw [s1 _ (by decide)]; rfl
    · rw [s1 _ (by decide)]; rfl
theorem cNs_sm {I I' : Nat → Nat → Int32} (hs : I' 640 = I 640) : ∀ {C : List g_Cl} {t : Nat}, cNs I t C → cNs I' t C
  | [], _, _ => trivial
  | _ :: _, _, h => ⟨cNum_sm h.1 (fun j _ => by rw [hs]), cNs_sm hs h.2⟩
theorem c_forget {I : Nat → Nat → Int32} {L : Nat → Int64} {Q : Option Value → (Nat → Nat → Int32) → (Nat → Int64) → Prop} (K : ∀ I', Sm [2758, 2759, 2760, 2761, 2762, 3009] I I' → (∀ r, r ∈ [2758, 2759, 2760, 2761, 2762, 3009] → I' r 0 = 0) → Q none I' L) : XS mX1_forgetAll 0 [(0, .ref 43)] [] I L Q := by
  refine bX1_forgetAll_0 (K _ ((((((Sm.rf.up (by decide)).up (by decide)).up (by decide)).up (by decide)).up (by decide)).up (by decide)) (fun r hr => ?_))
  simp only [List.mem_cons, List.not_mem_nil, or_false] at hr
  rcases hr with rfl | rfl | rfl | rfl | rfl | rfl <;> simp [x_up, upd]
def g_le (len : Nat) (X : Nat ⊕ (g_Cl × Nat)) : Prop := (∀ p, X = .inl p → p ≤ len) ∧ ∀ cl e, X = .inr (cl, e) → e ≤ len
theorem g_le_l {len p : Nat} (h : p ≤ len) : g_le len (.inl p) := ⟨fun q e => (by cases e; exact h), fun cl e h => (by cases h)⟩
theorem g_le_r {len e : Nat} {cl : g_Cl} (h : e ≤ len) : g_le len (.inr (cl, e)) := ⟨fun q e => (by cases e), fun cl e h => (by cases h; assumption)⟩
theorem g_cl_le {T : Nat → Nat} {len N i : Nat} {E : List (Nat × Nat)} (hi : i ≤ len) : g_le len (g_cl T len N E i) := by
  have h4 : ∀ u v c i, i ≤ len → g_le len (g_cl4 T len u v c i) := fun u v c i hi => by
    have z := g_PZ (T := T) hi
    unfold g_cl4
    cases g_nu T len i 1 9 with
    | none => exact g_le_l (by omega)
    | some d => exact g_le_r (by omega)
  have h3 : ∀ u v i, i ≤ len → g_le len (g_cl3 T len u v i) := fun u v i hi => by
    have z := g_PZ (T := T) hi
    unfold g_cl3
    cases g_nu T len i 1 9 with
    | none => exact g_le_l (by omega)
    | some c => exact h4 u v c _ (by omega)
  have h2 : ∀ u i, i ≤ len → g_le len (g_cl2 T len N E u i) := fun u i hi => by
    have z := g_PZ (T := T) hi
    unfold g_cl2
    cases g_nu T len i 0 (N - 1) with
    | none => exact g_le_l (by omega)
    | some v =>
      dsimp only
      split
      · exact g_le_l (by omega)
      · exact h3 u v _ (by omega)
  have h1 : ∀ i, i ≤ len → g_le len (g_cll T len N E i) := fun i hi => by
    have z := g_PZ (T := T) hi
    unfold g_cll
    cases g_nu T len i 0 (N - 1) with
    | none => exact g_le_l (by omega)
    | some u => exact h2 u _ (by omega)
  have hn : ∀ i, i ≤ len → g_le len (g_cln T len i) := fun i hi => by
    have z := g_PZ (T := T) hi
    unfold g_cln
    cases g_nu T len i 2 8 with
    | none => exact g_le_l (by omega)
    | some u => exact g_le_r (by omega)
  have z := g_PZ (T := T) hi
  unfold g_cl
  split
  · exact hn _ (by omega)
  · split
    · exact h1 _ (by omega)
    · exact g_le_l (by omega)
theorem g_ps_le {T : Nat → Nat} {len : Nat} : ∀ k N E i, i ≤ len → ∀ p, (g_ps T len k N E i).1 = some p → p ≤ len := by
  intro k
  induction k with
  | zero =>
    intro N E i hi p h
    have z := g_PZ (T := T) hi
    have e : g_ps T len 0 N E i = (some (g_P T len i), []) := rfl
    rw [e] at h
    cases h; omega
  | succ k ih =>
    intro N E i hi p h
    have hc := g_cl_le (T := T) (N := N) (E := E) hi
    cases hcl : g_cl T len N E i with
    | inl q =>
      have e : g_ps T len (k + 1) N E i = (some q, []) := by
        rw [show g_ps T len (k + 1) N E i = _ from by unfold g_ps; rw [hcl]]
      rw [e] at h
      injection h with h
      rw [← h]; exact hc.1 q hcl
    | inr q =>
      obtain ⟨cl, e⟩ := q
      have he := hc.2 cl e hcl
      have z := g_PZ (T := T) he
      rw [show g_ps T len (k + 1) N E i = _ from by unfold g_ps; rw [hcl]] at h
      dsimp only at h
      split at h
      · cases h
      · split at h
        · exact ih _ _ _ (by omega) p h
        · cases h; omega
theorem c_findFaultR {n ln len : Nat} {lo hi T : Nat → Nat} {I : Nat → Nat → Int32} {L : Nat → Int64} {Q : Option Value → (Nat → Nat → Int32) → (Nat → Int64) → Prop} (hG : cG I n ln lo hi) (hN : g_net n ln lo hi) (hT : cT I T len)
    (K : ∀ I' L' r, g_ps T len 24 n (g_El ln lo hi) 0 = r → Sm [517, 518, 519, 640, 515] I I' → (r.1 = none → I' 515 0 = nI r.2.length ∧ r.2.length ≤ 24 ∧ cNs I' 0 r.2 ∧ g_cks n (g_El ln lo hi) r.2) → Q (some (.int (i_o r.1))) I' L') :
    XS mX8_findFault 0 [(0, .ref 8)] [] I L Q := c_findFault hG hN hT (fun I' L' s h => K I' L' _ rfl s h)
theorem c_tell {σ : g_St} {len : Nat} {T : Nat → Nat} {I : Nat → Nat → Int32} {L : Nat → Int64} {Q : Option Value → (Nat → Nat → Int32) → (Nat → Int64) → Prop} (hS : cSt I σ) (hok : g_okS σ) (hT : cT I T len)
    (K0 : ∀ I' L', Sm [517, 518, 519, 640, 515] I I' → (g_ps T len 24 σ.1 (g_El σ.2.1 σ.2.2.1 σ.2.2.2.1) 0).1 ≠ none → Q (some (.int (-4))) I' L')
    (K1 : ∀ I' L' C, Sm [517, 518, 519, 640, 515, 64, 128, 192, 66, 448, 65, 256, 320, 1666, 1857, 2757, 710, 2758, 2759, 2760, 2761, 2762, 3009, 384, 514] I I' → g_ps T len 24 σ.1 (g_El σ.2.1 σ.2.2.1 σ.2.2.2.1) 0 = (none, C) → cSt I' (C.foldl g_ap σ) → g_okS (C.foldl g_ap σ) → cGone I I' (g_an C) → (∀ r, r ∈ [710, 2758, 2759, 2760, 2761, 2762, 3009, 514] → I' r 0 = 0) → (∀ j, j < 14 → I' 384 j = 0) → Q (some (.int (nI C.length))) I' L') :
    XS mX9_tell 0 [(0, .ref 0)] [] I L Q := by
  have hG : cG I σ.1 σ.2.1 σ.2.2.1 σ.2.2.2.1 := by obtain ⟨n, ln, lo, hi, c0, c1, U, seen⟩ := σ; exact hS.1
  have hN : g_net σ.1 σ.2.1 σ.2.2.1 σ.2.2.2.1 := by obtain ⟨n, ln, lo, hi, c0, c1, U, seen⟩ := σ; exact hok.1
  refine bX9_tell_0 (c_findFaultR hG hN hT (fun I1 L1 r hps s1 hgood => ?_))
  have hple : ∀ p, r.1 = some p → p ≤ len := fun p hp => g_ps_le (T := T) (len := len) 24 σ.1 (g_El σ.2.1 σ.2.2.1 σ.2.2.2.1) 0 (Nat.zero_le _) p (by rw [hps]; exact hp)
  have hl := hT.2.1
  rcases r with ⟨_ | p, C⟩
  rotate_left
  · have hp := hple p rfl
    exact bX9_tell_7 (fun h => absurd h (i_m1ne (by omega))) (fun _ => bX9_tell_11 (K0 I1 L1 s1 (by rw [hps]; intro q; cases q)))
  · clear hple
    · clear hl
      obtain ⟨d1, d2, d3, d4⟩ := hgood rfl
      dsimp only at d1 d2 d3 d4
      refine bX9_tell_7 (fun _ => bX9_tell_14 ?_) (fun h => absurd rfl h)
      have loop : ∀ C' t σ' I2, t + C'.length = C.length → Sm [64, 128, 192, 66, 448, 65, 256, 320, 1666, 1857, 2757] I1 I2 → cSt I2 σ' → g_okS σ' → g_cks σ'.1 (g_El σ'.2.1 σ'.2.2.1 σ'.2.2.2.1) C' → cNs I2 t C' → (∀ I3, Sm [64, 128, 192, 66, 448, 65, 256, 320, 1666, 1857, 2757] I1 I3 → cSt I3 (C'.foldl g_ap σ') → g_okS (C'.foldl g_ap σ') → cGone I2 I3 (g_an C') → XS mX9_tell 38 [(0, .ref 0)] [] I3 L1 Q) → XS mX9_tell 16 [(0, .ref 0), (1, .int (nI t))] [] I2 L1 Q := by
        intro C'
        induction C' with
        | nil =>
          intro t σ' I2 ht s2 b1 b2 b3 b4 KK
          refine bX9_tell_16 (fun _ => KK I2 s2 b1 b2 ⟨rfl, rfl, rfl⟩) (fun h => ?_)
          simp only [List.length_nil] at ht
          rw [s2 515 (by decide), show I1 515 0 = nI C.length from d1, nI_leI (by omega) (by omega)] at h; omega
        | cons cl C' ih =>
          intro t σ' I2 ht s2 b1 b2 b3 b4 KK
          simp only [List.length_cons] at ht
          obtain ⟨e1, e2, e3⟩ := b3
          obtain ⟨f1, f2, f3⟩ := g_ap_ok b2 e1 e2
          refine bX9_tell_16 (fun h => ?_) (fun _ => bX9_tell_27 (c_doClause (by omega) b1 b2 b4.1 e1 e2 (fun I3 s3 a1 a2 => bX9_tell_32 ?_)))
          · rw [s2 515 (by decide), show I1 515 0 = nI C.length from d1, nI_leI (by omega) (by omega)] at h; omega
          · rw [nI_1]
            refine ih (t + 1) (g_ap σ' cl) I3 (by omega) (s2.tr s3) a1 f1 (by rw [f2, f3]; exact e3) (cNs_sm (s3 _ (by decide)) b4.2) (fun I4 s4 c1 c2 c3 => KK I4 s4 c1 c2 ?_)
            have := a2.tr c3
            rw [show g_an (cl :: C') = (g_isN cl || g_an C') from rfl]
            exact this
      have hS1 : cSt I1 σ := by
        obtain ⟨n, ln, lo, hi, c0, c1, U, seen⟩ := σ
        obtain ⟨g1, g2, g3, g4, g5⟩ := hS
        exact ⟨g1.sm s1 (by decide) (by decide) (by decide) (by decide), fun l hl => by rw [s1 _ (by decide)]; exact g2 l hl, fun l hl => by rw [s1 _ (by decide)]; exact g3 l hl, by rw [s1 _ (by decide)]; exact g4, fun u hu => by rw [s1 _ (by decide)]; exact g5 u hu⟩
      refine loop C 0 σ I1 (by omega) Sm.rf hS1 hok d4 d3 (fun I3 s3 a1 a2 a3 => bX9_tell_38 (c_forget (fun I4 s4 b4 => bX9_tell_53 (c_fill (N := 14) sh_6 (by decide) (fun I5 s5 b5 => bX9_tell_64 ?_)))))
      have sA : Sm [710] I3 (x_up I3 710 0 0) := Sm.rf.up (by decide)
      have sB : Sm [710, 2758, 2759, 2760, 2761, 2762, 3009, 384, 514] I3 (x_up I5 514 0 0) := (((sA.mono (by decide)).tr (s4.mono (by decide))).tr (s5.mono (by decide))).up (by decide)
      have hcl : (x_up I5 514 0 0) 515 0 = nI C.length := by rw [sB 515 (by decide), s3 515 (by decide)]; exact d1
      rw [hcl]
      have hS5 : cSt (x_up I5 514 0 0) (C.foldl g_ap σ) := by
        revert a1
        generalize C.foldl g_ap σ = σ2
        intro a1
        obtain ⟨n, ln, lo, hi, c0, c1, U, seen⟩ := σ2
        obtain ⟨g1, g2, g3, g4, g5⟩ := a1
        exact ⟨g1.sm sB (by decide) (by decide) (by decide) (by decide), fun l hl => by rw [sB _ (by decide)]; exact g2 l hl, fun l hl => by rw [sB _ (by decide)]; exact g3 l hl, by rw [sB _ (by decide)]; exact g4, fun u hu => by rw [sB _ (by decide)]; exact g5 u hu⟩
      refine K1 _ L1 C (((s1.mono (by decide)).tr (s3.mono (by decide))).tr (sB.mono (by decide))) hps hS5 a2 ⟨?_, ?_, ?_⟩ (fun r hr => ?_) (fun j hj => ?_)
      · rw [sB _ (by decide), a3.1, s1 _ (by decide)]
      · rw [sB _ (by decide), a3.2.1, s1 _ (by decide)]
      · rw [sB _ (by decide), a3.2.2, s1 _ (by decide)]
      · simp only [List.mem_cons, List.not_mem_nil, or_false] at hr
        rcases hr with rfl | rfl | rfl | rfl | rfl | rfl | rfl | rfl
        · rw [x_up_ne (by decide), s5 _ (by decide), s4 _ (by decide), x_up_at]
        · rw [x_up_ne (by decide), s5 _ (by decide)]; exact b4 _ (by decide)
        · rw [x_up_ne (by decide), s5 _ (by decide)]; exact b4 _ (by decide)
        · rw [x_up_ne (by decide), s5 _ (by decide)]; exact b4 _ (by decide)
        · rw [x_up_ne (by decide), s5 _ (by decide)]; exact b4 _ (by decide)
        · rw [x_up_ne (by decide), s5 _ (by decide)]; exact b4 _ (by decide)
        · rw [x_up_ne (by decide), s5 _ (by decide)]; exact b4 _ (by decide)
        · rw [x_up_at]
      · rw [x_up_ne (by decide)]; exact b5 j hj
