/-! ===== clauses, and the class's fault ===== -/
abbrev g_Cl := Nat ⊕ (Nat × Nat × Nat × Nat)
def g_P (T : Nat → Nat) (len i : Nat) : Nat := g_skip T len i
def g_Z (T : Nat → Nat) (len i : Nat) : Nat := g_tend T len (g_skip T len i)
def g_nu (T : Nat → Nat) (len i a b : Nat) : Option Nat := g_num T (g_P T len i) (g_Z T len i) a b
def g_cln (T : Nat → Nat) (len i : Nat) : Nat ⊕ (g_Cl × Nat) := match g_nu T len i 2 8 with
  | none => .inl (g_P T len i)
  | some k => .inr (.inl k, g_Z T len i)
def g_cl4 (T : Nat → Nat) (len u v c i : Nat) : Nat ⊕ (g_Cl × Nat) := match g_nu T len i 1 9 with
  | none => .inl (g_P T len i)
  | some d => .inr (.inr (u, v, c, d), g_Z T len i)
def g_cl3 (T : Nat → Nat) (len u v i : Nat) : Nat ⊕ (g_Cl × Nat) := match g_nu T len i 1 9 with
  | none => .inl (g_P T len i)
  | some c => g_cl4 T len u v c (g_Z T len i)
def g_cl2 (T : Nat → Nat) (len N : Nat) (E : List (Nat × Nat)) (u i : Nat) : Nat ⊕ (g_Cl × Nat) := match g_nu T len i 0 (N - 1) with
  | none => .inl (g_P T len i)
  | some v => if v = u ∨ (g_pr u v ∉ E ∧ 14 ≤ E.length) then .inl (g_P T len i) else g_cl3 T len u v (g_Z T len i)
def g_cll (T : Nat → Nat) (len N : Nat) (E : List (Nat × Nat)) (i : Nat) : Nat ⊕ (g_Cl × Nat) := match g_nu T len i 0 (N - 1) with
  | none => .inl (g_P T len i)
  | some u => g_cl2 T len N E u (g_Z T len i)
def g_cl (T : Nat → Nat) (len N : Nat) (E : List (Nat × Nat)) (i : Nat) : Nat ⊕ (g_Cl × Nat) := if g_isw T (g_P T len i) (g_Z T len i) 0 = true then g_cln T len (g_Z T len i) else if g_isw T (g_P T len i) (g_Z T len i) 1 = true then g_cll T len N E (g_Z T len i) else .inl (g_P T len i)
def g_nxN (N : Nat) (cl : g_Cl) : Nat := match cl with
  | .inl k => k
  | .inr _ => N
def g_nxE (E : List (Nat × Nat)) (cl : g_Cl) : List (Nat × Nat) := match cl with
  | .inl _ => []
  | .inr (u, v, _, _) => g_ad E (g_pr u v)
def g_ps (T : Nat → Nat) (len : Nat) : Nat → Nat → List (Nat × Nat) → Nat → Option Nat × List g_Cl
  | 0, _, _, i => (some (g_P T len i), [])
  | k + 1, N, E, i => match g_cl T len N E i with
    | .inl p => (some p, [])
    | .inr (cl, e) => if len ≤ g_P T len e then (none, [cl]) else if T (g_P T len e) = 59 ∧ k ≠ 0 then ((g_ps T len k (g_nxN N cl) (g_nxE E cl) (g_P T len e + 1)).1, cl :: (g_ps T len k (g_nxN N cl) (g_nxE E cl) (g_P T len e + 1)).2) else (some (g_P T len e), [cl])
theorem g_nu_lt {T : Nat → Nat} {len i a b y : Nat} (h : g_nu T len i a b = some y) : a ≤ y ∧ y ≤ b := by
  unfold g_nu g_num at h
  split at h
  · cases h; omega
  · cases h
theorem g_PZ {T : Nat → Nat} {len i : Nat} (h : i ≤ len) : i ≤ g_P T len i ∧ g_P T len i ≤ len ∧ g_P T len i ≤ g_Z T len i ∧ g_Z T len i ≤ len := by
  have h1 := g_skip_le (T := T) h
  have h2 := g_tend_le (T := T) h1.2
  unfold g_P g_Z
  omega
/-- a clause as the class keeps it -/
def cNum (I : Nat → Nat → Int32) (t : Nat) (cl : g_Cl) : Prop := match cl with
  | .inl k => I 640 (4 * t) = nI k ∧ I 640 (4 * t + 1) = -1
  | .inr (u, v, c, d) => I 640 (4 * t) = nI u ∧ I 640 (4 * t + 1) = nI v ∧ I 640 (4 * t + 2) = nI c ∧ I 640 (4 * t + 3) = nI d
/-- a clause that may be told where there are N nodes -/
def g_clok (N : Nat) (cl : g_Cl) : Prop := match cl with
  | .inl k => 2 ≤ k ∧ k ≤ 8
  | .inr (u, v, c, d) => u < N ∧ v < N ∧ u ≠ v ∧ 1 ≤ c ∧ c ≤ 9 ∧ 1 ≤ d ∧ d ≤ 9
theorem c_keep {t : Nat} {v2 v3 v4 v5 : Int32} {I : Nat → Nat → Int32} {L : Nat → Int64} {Q : Option Value → (Nat → Nat → Int32) → (Nat → Int64) → Prop} (ht : t < 24) (K : ∀ I', Sm [640] I I' → I' 640 (4 * t) = v2 → I' 640 (4 * t + 1) = v3 → I' 640 (4 * t + 2) = v4 → I' 640 (4 * t + 3) = v5 → (∀ j, j / 4 ≠ t → I' 640 j = I 640 j) → Q none I' L) : XS mX8_keep 0 [(0, .ref 8), (1, .int (nI t)), (2, .int v2), (3, .int v3), (4, .int v4), (5, .int v5)] [] I L Q := by
  have e0 : nI t * (4 : Int32) = nI (4 * t) := by
    rw [show nI t * (4 : Int32) = nI (t * 4) from pk_mul t 4, Nat.mul_comm]
  have e1 : nI (4 * t) + (1 : Int32) = nI (4 * t + 1) := nI_add _ 1
  have e2 : nI (4 * t) + (2 : Int32) = nI (4 * t + 2) := nI_add _ 2
  have e3 : nI (4 * t) + (3 : Int32) = nI (4 * t + 3) := nI_add _ 3
  refine bX8_keep_0 (by rw [e0]; exact vp_in_nI (by omega) (by decide)) (by rw [e0, e1]; exact vp_in_nI (by omega) (by decide)) (by rw [e0, e2]; exact vp_in_nI (by omega) (by decide)) (by rw [e0, e3]; exact vp_in_nI (by omega) (by decide)) ?_
  rw [e0, e1, e2, e3, nI_clamp (by omega), nI_clamp (by omega), nI_clamp (by omega), nI_clamp (by omega)]
  refine K _ ((((Sm.rf.up (by decide)).up (by decide)).up (by decide)).up (by decide)) ?_ ?_ ?_ ?_ (fun j hj => ?_)
  · rw [x_up_off (by omega), x_up_off (by omega), x_up_off (by omega), x_up_at]
  · rw [x_up_off (by omega), x_up_off (by omega), x_up_at]
  · rw [x_up_off (by omega), x_up_at]
  · rw [x_up_at]
  · rw [x_up_off (by omega), x_up_off (by omega), x_up_off (by omega), x_up_off (by omega)]
theorem x_upL_at {L : Nat → Int64} {r : Nat} {v : Int64} : x_upL L r v r = v := by simp [x_upL]
/-- what a clause read leaves -/
def cRd (I I' : Nat → Nat → Int32) (L' : Nat → Int64) (t N : Nat) (E : List (Nat × Nat)) (cl : g_Cl) (e : Nat) : Prop := I' 518 0 = nI e ∧ I' 519 0 = nI (g_nxN N cl) ∧ cPr L' (g_nxE E cl) ∧ cNum I' t cl ∧ (∀ j, j / 4 ≠ t → I' 640 j = I 640 j) ∧ g_clok N cl ∧ (g_nxE E cl).length ≤ 14
theorem c_readNodes {T : Nat → Nat} {len i t N : Nat} {E : List (Nat × Nat)} {I : Nat → Nat → Int32} {L : Nat → Int64} {Q : Option Value → (Nat → Nat → Int32) → (Nat → Int64) → Prop} (hT : cT I T len) (hi : i ≤ len) (he : I 518 0 = nI i) (ht : t < 24)
    (K0 : ∀ I' p, Sm [517, 518, 519, 640] I I' → g_cln T len i = .inl p → I' 517 0 = nI p → (∀ j, j / 4 ≠ t → I' 640 j = I 640 j) → Q (some (.int 0)) I' L)
    (K1 : ∀ I' L' cl e, Sm [517, 518, 519, 640] I I' → g_cln T len i = .inr (cl, e) → e ≤ len → cRd I I' L' t N E cl e → Q (some (.int 1)) I' L') :
    XS mX8_readNodes 0 [(0, .ref 8), (1, .int (nI t))] [] I L Q := by
  have hpz := g_PZ (T := T) hi
  have hl := hT.2.1
  refine bX8_readNodes_0 (c_readNumber (a := 2) (b := 8) hT hi he (by decide) (by decide) (fun I1 s1 hk => ?_))
  have hnum : g_num T (g_skip T len i) (g_tend T len (g_skip T len i)) 2 8 = g_nu T len i 2 8 := rfl
  rw [hnum]
  cases hn : g_nu T len i 2 8 with
  | none =>
    refine bX8_readNodes_7 (fun h => absurd rfl h) (fun _ => bX8_readNodes_13 (K0 I1 (g_P T len i) (s1.mono (by decide)) ?_ hk.1 (fun j _ => by rw [s1 _ (by decide)])))
    unfold g_cln; rw [hn]
  | some k =>
    have hkb := g_nu_lt hn
    refine bX8_readNodes_7 (fun _ => bX8_readNodes_15 (c_keep ht (fun I2 s2 a1 a2 a3 a4 a5 => bX8_readNodes_34 ?_))) (fun h => absurd h (i_m1ne (by omega)))
    refine K1 I2 _ (.inl k) (g_Z T len i) ((s1.mono (by decide)).tr ((Sm.rf.up (by decide)).tr (s2.mono (by decide)))) ?_ hpz.2.2.2 ⟨?_, ?_, ⟨0, x_upL_at, g_prs_0⟩, ⟨a1, a2⟩, fun j hj => ?_, hkb, by simp [g_nxE]⟩
    · unfold g_cln; rw [hn]
    · rw [s2 _ (by decide), x_up_ne (by decide)]; exact hk.2
    · rw [s2 _ (by decide), x_up_at]; rfl
    · rw [a5 j hj, x_up_ne (by decide), s1 _ (by decide)]
theorem g_pr_lt {u v n : Nat} (hu : u < n) (hv : v < n) : (g_pr u v).1 < n ∧ (g_pr u v).2 < n := by
  unfold g_pr
  exact ⟨by show min u v < n; omega, by show max u v < n; omega⟩
theorem c_readLink {T : Nat → Nat} {len i t N : Nat} {E : List (Nat × Nat)} {I : Nat → Nat → Int32} {L : Nat → Int64} {Q : Option Value → (Nat → Nat → Int32) → (Nat → Int64) → Prop} (hT : cT I T len) (hi : i ≤ len) (he : I 518 0 = nI i) (ht : t < 24) (hN : I 519 0 = nI N) (hN2 : 2 ≤ N) (hN8 : N ≤ 8) (hP : cPr L E) (hE : E.length ≤ 14)
    (K0 : ∀ I' p, Sm [517, 518, 519, 640] I I' → g_cll T len N E i = .inl p → I' 517 0 = nI p → (∀ j, j / 4 ≠ t → I' 640 j = I 640 j) → Q (some (.int 0)) I' L)
    (K1 : ∀ I' L' cl e, Sm [517, 518, 519, 640] I I' → g_cll T len N E i = .inr (cl, e) → e ≤ len → cRd I I' L' t N E cl e → Q (some (.int 1)) I' L') :
    XS mX8_readLink 0 [(0, .ref 8), (1, .int (nI t))] [] I L Q := by
  have hl := hT.2.1
  have z0 := g_PZ (T := T) hi
  have hN1 : I 519 0 - (1 : Int32) = nI (N - 1) := by rw [show I 519 0 = nI N from hN]; exact i_sub (a := N) (b := 1) (by omega)
  have hnum : ∀ i a b, g_num T (g_skip T len i) (g_tend T len (g_skip T len i)) a b = g_nu T len i a b := fun _ _ _ => rfl
  refine bX8_readLink_0 ?_
  rw [hN1]
  refine c_readNumber (a := 0) (b := N - 1) hT hi he (by decide) (by omega) (fun I1 s1 hk1 => ?_)
  rw [hnum]
  cases hu : g_nu T len i 0 (N - 1) with
  | none =>
    refine bX8_readLink_11 (fun h => absurd rfl h) (fun _ => bX8_readLink_17 (K0 I1 (g_P T len i) (s1.mono (by decide)) ?_ hk1.1 (fun j _ => by rw [s1 _ (by decide)])))
    unfold g_cll; rw [hu]
  | some u =>
    have hub := g_nu_lt hu
    have g1 : g_cll T len N E i = g_cl2 T len N E u (g_Z T len i) := by unfold g_cll; rw [hu]
    have z1 := g_PZ (T := T) (i := g_Z T len i) z0.2.2.2
    have hT1 : cT I1 T len := hT.sm s1 (by decide) (by decide)
    have hN1' : I1 519 0 - (1 : Int32) = nI (N - 1) := by rw [s1 519 (by decide)]; exact hN1
    refine bX8_readLink_11 (fun _ => bX8_readLink_19 ?_) (fun h => absurd h (i_m1ne (by omega)))
    rw [hN1']
    refine c_readNumber (a := 0) (b := N - 1) hT1 z0.2.2.2 hk1.2 (by decide) (by omega) (fun I2 s2 hk2 => ?_)
    have s12 := s1.tr s2
    show XS mX8_readLink 30 _ [.int (i_o (g_nu T len (g_Z T len i) 0 (N - 1)))] _ _ _
    cases hv : g_nu T len (g_Z T len i) 0 (N - 1) with
    | none =>
      refine bX8_readLink_30 (fun _ => bX8_readLink_53 (K0 I2 (g_P T len (g_Z T len i)) (s12.mono (by decide)) ?_ hk2.1 (fun j _ => by rw [s12 _ (by decide)]))) (fun h => absurd rfl h)
      rw [g1]; unfold g_cl2; rw [hv]
    | some v =>
      have hvb := g_nu_lt hv
      have hpl := g_pr_lt (u := u) (v := v) (n := 8) (by omega) (by omega)
      have z2 := g_PZ (T := T) (i := g_Z T len (g_Z T len i)) z1.2.2.2
      have hT2 : cT I2 T len := hT1.sm s2 (by decide) (by decide)
      have bad : (v = u ∨ (g_pr u v ∉ E ∧ 14 ≤ E.length)) → XS mX8_readLink 53 [] [] I2 L Q := fun hb => bX8_readLink_53 (K0 I2 (g_P T len (g_Z T len i)) (s12.mono (by decide)) (by rw [g1]; unfold g_cl2; rw [hv]; dsimp only; rw [if_pos hb]) hk2.1 (fun j _ => by rw [s12 _ (by decide)]))
      refine bX8_readLink_30 (fun h => absurd h (i_m1ne (by omega))) (fun _ => bX8_readLink_36 (fun h => bad (Or.inl ((nI_eq (by omega) (by omega)).mp h))) (fun h => bX8_readLink_41 (c_pairOf (by omega) (by omega) (bX8_readLink_47 (c_isTooMany (E := E) hpl.1 hpl.2 hE hP (bX8_readLink_50 (fun h2 => ?_) (fun h2 => bad ?_)))))))
      · rw [i_b0, decide_eq_false_iff_not] at h2
        have hvu : v ≠ u := fun q => h (by rw [q])
        have hgood : ¬ (v = u ∨ (g_pr u v ∉ E ∧ 14 ≤ E.length)) := by
          rintro (q | q)
          · exact hvu q
          · exact h2 q
        have g2 : g_cll T len N E i = g_cl3 T len u v (g_Z T len (g_Z T len i)) := by
          rw [g1]; unfold g_cl2; rw [hv]; dsimp only; rw [if_neg hgood]
        refine bX8_readLink_55 (c_readNumber (a := 1) (b := 9) hT2 z1.2.2.2 hk2.2 (by decide) (by decide) (fun I3 s3 hk3 => ?_))
        have s13 := s12.tr s3
        show XS mX8_readLink 62 _ [.int (i_o (g_nu T len (g_Z T len (g_Z T len i)) 1 9))] _ _ _
        cases hc : g_nu T len (g_Z T len (g_Z T len i)) 1 9 with
        | none =>
          refine bX8_readLink_62 (fun h => absurd rfl h) (fun _ => bX8_readLink_70 (K0 I3 (g_P T len (g_Z T len (g_Z T len i))) (s13.mono (by decide)) ?_ hk3.1 (fun j _ => by rw [s13 _ (by decide)])))
          rw [g2]; unfold g_cl3; rw [hc]
        | some c =>
          have hcb := g_nu_lt hc
          have g3 : g_cll T len N E i = g_cl4 T len u v c (g_Z T len (g_Z T len (g_Z T len i))) := by
            rw [g2]; unfold g_cl3; rw [hc]
          have hT3 : cT I3 T len := hT2.sm s3 (by decide) (by decide)
          refine bX8_readLink_62 (fun _ => bX8_readLink_72 (c_readNumber (a := 1) (b := 9) hT3 z2.2.2.2 hk3.2 (by decide) (by decide) (fun I4 s4 hk4 => ?_))) (fun h => absurd h (i_m1ne (by omega)))
          have s14 := s13.tr s4
          show XS mX8_readLink 79 _ [.int (i_o (g_nu T len (g_Z T len (g_Z T len (g_Z T len i))) 1 9))] _ _ _
          cases hd : g_nu T len (g_Z T len (g_Z T len (g_Z T len i))) 1 9 with
          | none =>
            refine bX8_readLink_79 (fun h => absurd rfl h) (fun _ => bX8_readLink_87 (K0 I4 (g_P T len (g_Z T len (g_Z T len (g_Z T len i)))) (s14.mono (by decide)) ?_ hk4.1 (fun j _ => by rw [s14 _ (by decide)])))
            rw [g3]; unfold g_cl4; rw [hd]
          | some d =>
            have hdb := g_nu_lt hd
            have z3 := g_PZ (T := T) (i := g_Z T len (g_Z T len (g_Z T len i))) z2.2.2.2
            obtain ⟨x, hx, hpx⟩ := hP
            have hx' : L 520 = nJ x := hx
            refine bX8_readLink_79 (fun _ => bX8_readLink_89 (c_pairOf (by omega) (by omega) ?_)) (fun h => absurd h (i_m1ne (by omega)))
            refine bX8_readLink_99 (c_keep ht (fun I5 s5 a1 a2 a3 a4 a5 => bX8_readLink_114 ?_))
            have s15 := (s14.mono (T := [517, 518, 519, 640]) (by decide)).tr (s5.mono (by decide))
            refine K1 I5 _ (.inr (u, v, c, d)) (g_Z T len (g_Z T len (g_Z T len (g_Z T len i)))) s15 ?_ z3.2.2.2 ⟨?_, ?_, ⟨x ||| 2 ^ (8 * (g_pr u v).1 + (g_pr u v).2), ?_, g_prs_ad hpl.1 hpl.2 hpx⟩, ⟨a1, a2, a3, a4⟩, fun j hj => ?_, ⟨by omega, by omega, fun q => hvu q.symm, hcb.1, hcb.2, hdb.1, hdb.2⟩, ?_⟩
            · rw [g3]; unfold g_cl4; rw [hd]
            · rw [s5 _ (by decide)]; exact hk4.2
            · rw [s5 _ (by decide), s14 _ (by decide)]; exact hN
            · rw [x_upL_at, hx', j_or]
            · rw [a5 j hj, s14 _ (by decide)]
            · show (g_ad E (g_pr u v)).length ≤ 14
              unfold g_ad
              split
              · exact hE
              · rename_i hm
                have : ¬ 14 ≤ E.length := fun q => hgood (Or.inr ⟨hm, q⟩)
                simp
                omega
      · rw [i_b0] at h2
        have := by simpa using h2
        exact Or.inr ⟨this.1, this.2⟩
