/-! ===== the reference reads the text, finds the fault, tells ===== -/
abbrev S_r0 : List Nat := [3163, 3160, 3161, 3162, 3164, 3165, 4160, 4224]
abbrev S_re : List Nat := [3163, 3160, 3161, 3162, 3164, 3165, 4160, 4224, 3136, 3137, 3200, 3264, 3392, 3144, 3147, 3149]
abbrev S_tl : List Nat := [3163, 3160, 3161, 3162, 3164, 3165, 4160, 4224, 3136, 3137, 3200, 3264, 3392, 3144, 3147, 3149, 3159, 3143, 3171, 3172, 3173, 3174, 3175, 3176, 3328]
theorem g_cl_ok {T : Nat → Nat} {len N i e : Nat} {E : List (Nat × Nat)} {cl : g_Cl} (hN : 2 ≤ N) (hE : E.length ≤ 14) (h : g_cl T len N E i = .inr (cl, e)) : g_clok N cl ∧ (g_nxE E cl).length ≤ 14 := by
  unfold g_cl at h
  split at h
  · unfold g_cln at h
    cases hn : g_nu T len (g_Z T len i) 2 8 with
    | none => rw [hn] at h; cases h
    | some y =>
      rw [hn] at h
      have hy := g_nu_lt hn
      injection h with h
      injection h with h1 h2
      subst h1
      exact ⟨hy, by simp [g_nxE]⟩
  · split at h
    · generalize g_Z T len i = j at h
      unfold g_cll at h
      cases hu : g_nu T len j 0 (N - 1) with
      | none => rw [hu] at h; cases h
      | some u =>
        rw [hu] at h
        dsimp only at h
        generalize g_Z T len j = j2 at h
        unfold g_cl2 at h
        cases hv : g_nu T len j2 0 (N - 1) with
        | none => rw [hv] at h; cases h
        | some v =>
          rw [hv] at h
          dsimp only at h
          split at h
          · cases h
          · rename_i hgood
            generalize g_Z T len j2 = j3 at h
            unfold g_cl3 at h
            cases hc : g_nu T len j3 1 9 with
            | none => rw [hc] at h; cases h
            | some c =>
              rw [hc] at h
              dsimp only at h
              generalize g_Z T len j3 = j4 at h
              unfold g_cl4 at h
              cases hd : g_nu T len j4 1 9 with
              | none => rw [hd] at h; cases h
              | some d =>
                rw [hd] at h
                injection h with h
                injection h with h1 h2
                subst h1
                have a := g_nu_lt hu
                have b := g_nu_lt hv
                have c1 := g_nu_lt hc
                have d1 := g_nu_lt hd
                refine ⟨⟨by omega, by omega, fun q => hgood (Or.inl q.symm), c1.1, c1.2, d1.1, d1.2⟩, ?_⟩
                show (g_ad E (g_pr u v)).length ≤ 14
                unfold g_ad
                split
                · exact hE
                · rename_i hm
                  have : ¬ 14 ≤ E.length := fun q => hgood (Or.inr ⟨hm, q⟩)
                  rw [List.length_append, List.length_singleton]
                  omega
    · cases h
theorem mRd.sm {S : List Nat} {I I' : Nat → Nat → Int32} {σ : g_St} (h : mRd I σ) (hs : Sm S I I') (h1 : 3164 ∉ S) (h2 : 3165 ∉ S) (h3 : 4160 ∉ S) (h4 : 4224 ∉ S) : mRd I' σ := by
  obtain ⟨n, ln, lo, hi, c0, c1, U, seen⟩ := σ
  obtain ⟨y1, y2, y3⟩ := h
  exact ⟨by rw [hs _ h1]; exact y1, by rw [hs _ h2]; exact y2, fun l hl => by rw [hs _ h3, hs _ h4]; exact y3 l hl⟩
theorem s_readsGo {T : Nat → Nat} {len : Nat} {D : Bool} {I : Nat → Nat → Int32} {L : Nat → Int64} {Q : Option Value → (Nat → Nat → Int32) → (Nat → Int64) → Prop} (hT : mT I T len) : ∀ k t (σ : g_St) i I1, t + (k + 1) = 24 → Sm S_re I I1 → (D = false → Sm S_r0 I I1) → i ≤ len → I1 3160 0 = nI i → I1 3162 0 = 0 → I1 3163 0 = i_b D → g_okS σ → mRd I1 σ → (D = true → mSt I1 σ) →
    (∀ I' x r, g_ps T len (k + 1) σ.1 (g_El σ.2.1 σ.2.2.1 σ.2.2.2.1) i = r → Sm S_re I I' → (D = false → Sm S_r0 I I') → I' 3162 0 = i_b r.1.isSome → (∀ p, r.1 = some p → I' 3160 0 = nI p) → (D = true → r.1 = none → mSt I' (r.2.foldl g_ap σ) ∧ mGone I1 I' (g_an r.2)) → (r.1 = none → x = nI (t + r.2.length)) → Q (some (.int x)) I' L) →
    XS mX10_reads 86 [(0, .ref 49), (2, .int (nI t))] [] I1 L Q := by
  intro k
  induction k using Nat.strongRecOn with
  | _ k ih =>
  intro t σ i I1 ht s1 s1' hi he hf hD hok hR hS KK
  have hE := g_okS_E hok
  have hl := hT.2.1
  have hT1 : mT I1 T len := hT.sm s1 (by decide) (by decide)
  have fin : ∀ (x : Int32) I', Q (some (.int x)) I' L → XS mX10_reads 139 [(0, .ref 49), (2, .int x), (3, .int 0)] [] I' L Q := fun x I' h => bX10_reads_139 (bX10_reads_75 (fun _ => bX10_reads_142 h) (fun q => absurd rfl q))
  refine bX10_reads_86 (s_clause hok hR hS hT1 hi he hf hD (fun I2 p s2 a b c => ?_) (fun I2 cl e s2 s2' a b c d f => ?_))
  · have hps : g_ps T len (k + 1) σ.1 (g_El σ.2.1 σ.2.2.1 σ.2.2.2.1) i = (some p, []) := by
      rw [show g_ps T len (k + 1) σ.1 (g_El σ.2.1 σ.2.2.1 σ.2.2.2.1) i = _ from by unfold g_ps; rw [a]]
    refine bX10_reads_90 (fun h => absurd (b.symm.trans h) (by decide)) (fun _ => bX10_reads_100 (bX10_reads_108 (fun _ => bX10_reads_127 (bX10_reads_128 (fun _ => fin _ _ ?_) (fun h => absurd (by decide) h))) (fun h => absurd h (by decide))))
    exact KK I2 _ _ hps (s1.tr (s2.mono (by decide))) (fun q => (s1' q).tr (s2.mono (by decide))) b (fun p' hp' => by injection hp' with hp'; rw [← hp']; exact c) (fun _ q => by cases q) (fun q => by cases q)
  · obtain ⟨hc1, hc2⟩ := g_cl_ok hE.1 (by rw [g_El_len]; exact hE.2.2.1) a
    have hel : e ≤ len := (g_cl_le (T := T) hi).2 cl e a
    obtain ⟨f1, f2, f3⟩ := g_ap_ok hok hc1 hc2
    have s12 : Sm S_re I I2 := s1.tr (s2.mono (by decide))
    have s12' : D = false → Sm S_r0 I I2 := fun q => (s1' q).tr ((s2' q).mono (by decide))
    have hT2 : mT I2 T len := hT.sm s12 (by decide) (by decide)
    have hD2 : I2 3163 0 = i_b D := by rw [s2 _ (by decide)]; exact hD
    refine bX10_reads_90 (fun _ => bX10_reads_104 (s_looks hT2 hel c (fun I3 s3 hk3 => ?_))) (fun h => absurd b h)
    have z := g_PZ (T := T) hel
    have s13 : Sm S_re I I3 := s12.tr (s3.mono (by decide))
    have s13' : D = false → Sm S_r0 I I3 := fun q => (s12' q).tr (s3.mono (by decide))
    have f3' : I3 3162 0 = i_b false := by rw [s3 _ (by decide)]; exact b
    rw [nI_1]
    by_cases hend : len ≤ g_P T len e
    · have hps : g_ps T len (k + 1) σ.1 (g_El σ.2.1 σ.2.2.1 σ.2.2.2.1) i = (none, [cl]) := by
        rw [show g_ps T len (k + 1) σ.1 (g_El σ.2.1 σ.2.2.1 σ.2.2.2.1) i = _ from by unfold g_ps; rw [a]]
        dsimp only
        rw [if_pos hend]
      rw [if_neg (by omega)]
      refine bX10_reads_108 (fun _ => bX10_reads_127 (bX10_reads_128 (fun _ => fin _ _ ?_) (fun h => absurd (by decide) h))) (fun h => absurd h (by decide))
      refine KK I3 _ _ hps s13 s13' f3' (fun p' hp' => by cases hp') (fun q _ => ⟨(f q).1.sm s3 (by decide) (by decide) (by decide) (by decide) (by decide), ?_⟩) (fun _ => rfl)
      obtain ⟨d1, d2, d3⟩ := (f q).2
      rw [show g_an [cl] = g_isN cl by simp [g_an]]
      exact ⟨by rw [s3 _ (by decide)]; exact d1, by rw [s3 _ (by decide)]; exact d2, by rw [s3 _ (by decide)]; exact d3⟩
    · have hx := hT.2.2 (g_P T len e) (by omega)
      rw [if_pos (by omega)]
      by_cases hgo : T (g_P T len e) = 59 ∧ k ≠ 0
      · obtain ⟨k', rfl⟩ : ∃ k', k = k' + 1 := ⟨k - 1, by omega⟩
        have hps : g_ps T len (k' + 1 + 1) σ.1 (g_El σ.2.1 σ.2.2.1 σ.2.2.2.1) i = ((g_ps T len (k' + 1) (g_nxN σ.1 cl) (g_nxE (g_El σ.2.1 σ.2.2.1 σ.2.2.2.1) cl) (g_P T len e + 1)).1, cl :: (g_ps T len (k' + 1) (g_nxN σ.1 cl) (g_nxE (g_El σ.2.1 σ.2.2.1 σ.2.2.2.1) cl) (g_P T len e + 1)).2) := by
          rw [show g_ps T len (k' + 1 + 1) σ.1 (g_El σ.2.1 σ.2.2.1 σ.2.2.2.1) i = _ from by unfold g_ps; rw [a]]
          dsimp only
          rw [if_neg hend, if_pos hgo]
        have hz := g_Z_sign (T := T) (len := len) (i := e) (by omega) hgo.1
        rw [hgo.1]
        refine bX10_reads_108 (fun h => absurd rfl h) (fun _ => bX10_reads_117 (fun h => ?_) (fun _ => bX10_reads_123 (bX10_reads_128 (fun h => absurd h (by decide)) (fun _ => bX10_reads_134 (s_takes (ok := true) f3' hk3.1 hk3.2 (fun I4 s4 b1 b2 => bX10_reads_139 (bX10_reads_75 (fun h => absurd h (by decide)) (fun _ => bX10_reads_79 (fun h => absurd b1 h) (fun _ => ?_)))))))))
        · have := (i_le 24 (t + 1) rfl rfl (by decide) (by omega)).mp h; omega
        · rw [if_neg (by simp), show g_P T len e + (g_Z T len e - g_P T len e) = g_P T len e + 1 by omega] at b2
          have s34 : Sm [3160, 3161, 3162] I2 I4 := (s3.mono (by decide)).tr (s4.mono (by decide))
          refine ih k' (by omega) (t + 1) (g_ap σ cl) (g_P T len e + 1) I4 (by omega) (s12.tr (s34.mono (by decide))) (fun q => (s12' q).tr (s34.mono (by decide))) (by omega) b2 b1 (by rw [s34 _ (by decide)]; exact hD2) f1 (d.sm s34 (by decide) (by decide) (by decide) (by decide)) (fun q => (f q).1.sm s34 (by decide) (by decide) (by decide) (by decide) (by decide)) (fun I5 x r hr w1 w2 w3 w4 w5 w6 => ?_)
          rw [f2, f3] at hr
          rw [hr] at hps
          refine KK I5 x _ hps w1 w2 w3 w4 (fun q1 q2 => ?_) (fun q => ?_)
          · obtain ⟨y1, y2⟩ := w5 q1 q2
            refine ⟨y1, ?_⟩
            have y3 : mGone I1 I4 (g_isN cl) := by
              obtain ⟨d1, d2, d3⟩ := (f q1).2
              exact ⟨by rw [s34 _ (by decide)]; exact d1, by rw [s34 _ (by decide)]; exact d2, by rw [s34 _ (by decide)]; exact d3⟩
            exact y3.tr y2
          · rw [w6 q]
            show nI (t + 1 + r.2.length) = nI (t + (cl :: r.2).length)
            rw [List.length_cons]
            congr 1
            omega
      · have hps : g_ps T len (k + 1) σ.1 (g_El σ.2.1 σ.2.2.1 σ.2.2.2.1) i = (some (g_P T len e), [cl]) := by
          rw [show g_ps T len (k + 1) σ.1 (g_El σ.2.1 σ.2.2.1 σ.2.2.2.1) i = _ from by unfold g_ps; rw [a]]
          dsimp only
          rw [if_neg hend, if_neg hgo]
        have bad : XS mX10_reads 127 [(0, .ref 49), (2, .int (nI (t + 1))), (4, .int (nI (T (g_P T len e))))] [] I3 L Q := by
          refine bX10_reads_127 (bX10_reads_128 (fun h => absurd rfl (i_neg h (a := T (g_P T len e)) (by omega))) (fun _ => bX10_reads_134 (s_takes (ok := false) f3' hk3.1 hk3.2 (fun I4 s4 b1 b2 => fin _ _ ?_))))
          rw [if_pos (by rfl)] at b2
          exact KK I4 _ _ hps (s13.tr (s4.mono (by decide))) (fun q => (s13' q).tr (s4.mono (by decide))) b1 (fun p' hp' => by injection hp' with hp'; rw [← hp']; exact b2) (fun _ q => by cases q) (fun q => by cases q)
        refine bX10_reads_108 (fun h => bad) (fun h => bX10_reads_117 (fun _ => bad) (fun h2 => ?_))
        exfalso
        have h59 := (i_eq _ 59 rfl rfl (by omega) (by decide)).mp h
        exact h2 ((i_le 24 (t + 1) rfl rfl (by decide) (by omega)).mpr (by
          apply Classical.byContradiction
          intro q
          exact hgo ⟨h59, by omega⟩))
theorem s_reads {σ : g_St} {T : Nat → Nat} {len : Nat} {D : Bool} {I : Nat → Nat → Int32} {L : Nat → Int64} {Q : Option Value → (Nat → Nat → Int32) → (Nat → Int64) → Prop} (hok : g_okS σ) (hS : mSt I σ) (hT : mT I T len)
    (K : ∀ I' x r, g_ps T len 24 σ.1 (g_El σ.2.1 σ.2.2.1 σ.2.2.2.1) 0 = r → Sm S_re I I' → (D = false → Sm S_r0 I I') → I' 3162 0 = i_b r.1.isSome → (∀ p, r.1 = some p → I' 3160 0 = nI p) → (D = true → r.1 = none → mSt I' (r.2.foldl g_ap σ) ∧ mGone I I' (g_an r.2)) → (r.1 = none → x = nI r.2.length) → Q (some (.int x)) I' L) :
    XS mX10_reads 0 [(0, .ref 49), (1, .int (i_b D))] [] I L Q := by
  have hok' := hok
  have hS' := hS
  obtain ⟨n, ln, lo, hi, c0, c1, U, seen⟩ := σ
  obtain ⟨hN, h0, h1, hU, hs⟩ := hok
  obtain ⟨⟨p1, p2, p3⟩, m2, m3, m4, m5⟩ := hS
  have hln := hN.2.2.1
  have hn8 := hN.2.1
  have p1' : I 3136 0 = nI n := p1
  have p2' : I 3137 0 = nI ln := p2
  have q1 : (x_up (x_up (x_up I 3160 0 0) 3162 0 0) 3163 0 (i_b D)) 3136 0 = nI n := by rw [x_up_ne (by decide), x_up_ne (by decide), x_up_ne (by decide)]; exact p1'
  have q2 : (x_up (x_up (x_up (x_up I 3160 0 0) 3162 0 0) 3163 0 (i_b D)) 3164 0 (nI n)) 3137 0 = nI ln := by rw [x_up_ne (by decide), x_up_ne (by decide), x_up_ne (by decide), x_up_ne (by decide)]; exact p2'
  refine bX10_reads_0 (i_b01 D) ?_
  rw [q1, q2]
  have s1 : Sm S_r0 I (x_up (x_up (x_up (x_up (x_up I 3160 0 0) 3162 0 0) 3163 0 (i_b D)) 3164 0 (nI n)) 3165 0 (nI ln)) := ((((Sm.rf.up (by decide)).up (by decide)).up (by decide)).up (by decide)).up (by decide)
  have a1 : (x_up (x_up (x_up (x_up (x_up I 3160 0 0) 3162 0 0) 3163 0 (i_b D)) 3164 0 (nI n)) 3165 0 (nI ln)) 3160 0 = nI 0 := by rw [x_up_ne (by decide), x_up_ne (by decide), x_up_ne (by decide), x_up_ne (by decide), x_up_at]; rfl
  have a2 : (x_up (x_up (x_up (x_up (x_up I 3160 0 0) 3162 0 0) 3163 0 (i_b D)) 3164 0 (nI n)) 3165 0 (nI ln)) 3162 0 = 0 := by rw [x_up_ne (by decide), x_up_ne (by decide), x_up_ne (by decide), x_up_at]
  have a3 : (x_up (x_up (x_up (x_up (x_up I 3160 0 0) 3162 0 0) 3163 0 (i_b D)) 3164 0 (nI n)) 3165 0 (nI ln)) 3163 0 = i_b D := by rw [x_up_ne (by decide), x_up_ne (by decide), x_up_at]
  have a4 : (x_up (x_up (x_up (x_up (x_up I 3160 0 0) 3162 0 0) 3163 0 (i_b D)) 3164 0 (nI n)) 3165 0 (nI ln)) 3164 0 = nI n := by rw [x_up_ne (by decide), x_up_at]
  have a5 : (x_up (x_up (x_up (x_up (x_up I 3160 0 0) 3162 0 0) 3163 0 (i_b D)) 3164 0 (nI n)) 3165 0 (nI ln)) 3165 0 = nI ln := by rw [x_up_at]
  generalize (x_up (x_up (x_up (x_up (x_up I 3160 0 0) 3162 0 0) 3163 0 (i_b D)) 3164 0 (nI n)) 3165 0 (nI ln)) = I1 at s1 a1 a2 a3 a4 a5 ⊢
  have loop : ∀ k l I2, l + k = ln → Sm [4160, 4224] I1 I2 → (∀ j, j < l → I2 4160 j = nI (lo j) ∧ I2 4224 j = nI (hi j)) → XS mX10_reads 33 [(0, .ref 49), (2, .int (nI l))] [] I2 L Q := by
    intro k
    induction k with
    | zero =>
      intro l I2 hl s2 hc
      have e : l = ln := by omega
      subst e
      have s12 : Sm S_r0 I I2 := s1.tr (s2.mono (by decide))
      refine bX10_reads_33 (fun _ => bX10_reads_71 (bX10_reads_75 (fun h => absurd h (by decide)) (fun _ => bX10_reads_79 (fun h => absurd (by rw [s2 3162 (by decide)]; exact a2) h) (fun _ => ?_)))) (fun h => ?_)
      · refine s_readsGo (D := D) hT 23 0 (n, l, lo, hi, c0, c1, U, seen) 0 I2 (by omega) (s12.mono (by decide)) (fun _ => s12) (by omega) (by rw [s2 _ (by decide)]; exact a1) (by rw [s2 _ (by decide)]; exact a2) (by rw [s2 _ (by decide)]; exact a3) hok' ⟨by rw [s2 _ (by decide)]; exact a4, by rw [s2 _ (by decide)]; exact a5, hc⟩ (fun _ => hS'.sm s12 (by decide) (by decide) (by decide) (by decide) (by decide)) (fun I' x r hr w1 w2 w3 w4 w5 w6 => K I' x r hr w1 w2 w3 w4 (fun y1 y2 => ⟨(w5 y1 y2).1, ?_⟩) (fun q => by rw [w6 q, Nat.zero_add]))
        obtain ⟨d1, d2, d3⟩ := (w5 y1 y2).2
        exact ⟨by rw [d1, s12 _ (by decide)], by rw [d2, s12 _ (by decide)], by rw [d3, s12 _ (by decide)]⟩
      · rw [s2 3137 (by decide), s1 3137 (by decide), p2', nI_leI (by omega) (by omega)] at h; omega
    | succ k ih =>
      intro l I2 hl s2 hc
      have g := p3 l (by omega)
      have g1 : I2 3200 l = nI (lo l) := by rw [s2 3200 (by decide), s1 3200 (by decide)]; exact g.1
      have g2 : (x_up I2 4160 l (nI (lo l))) 3264 l = nI (hi l) := by rw [x_up_ne (by decide), s2 3264 (by decide), s1 3264 (by decide)]; exact g.2
      have hv : vp_in (nI l) 14 := vp_in_nI (by omega) (by decide)
      refine bX10_reads_33 (fun h => ?_) (fun _ => bX10_reads_41 hv hv hv hv ?_)
      · rw [s2 3137 (by decide), s1 3137 (by decide), p2', nI_leI (by omega) (by omega)] at h; omega
      · rw [nI_clamp (by omega), g1, g2, nI_1]
        refine ih (l + 1) _ (by omega) ((s2.up (by decide)).up (by decide)) (fun j hj => ?_)
        rw [x_up_ne (by decide), x_up_app (q := 4224)]
        by_cases hjl : j = l
        · subst hjl; rw [x_up_at, if_pos ⟨rfl, rfl⟩]; exact ⟨rfl, rfl⟩
        · rw [x_up_off hjl, if_neg (fun q => hjl q.2), x_up_ne (by decide)]; exact hc j (by omega)
  exact loop ln 0 I1 (by omega) Sm.rf (fun j hj => by omega)
theorem s_fault {σ : g_St} {T : Nat → Nat} {len : Nat} {I : Nat → Nat → Int32} {L : Nat → Int64} {Q : Option Value → (Nat → Nat → Int32) → (Nat → Int64) → Prop} (hok : g_okS σ) (hS : mSt I σ) (hT : mT I T len)
    (K : ∀ I', Sm S_r0 I I' → Q (some (.int (i_o (g_ps T len 24 σ.1 (g_El σ.2.1 σ.2.2.1 σ.2.2.2.1) 0).1))) I' L) : XS mX10_fault 0 [(0, .ref 49)] [] I L Q := by
  refine bX10_fault_0 (s_reads (D := false) hok hS hT (fun I1 x r hr w1 w2 w3 w4 w5 w6 => ?_))
  have K' := K I1 (w2 rfl)
  rw [hr] at K'
  obtain ⟨r1, r2⟩ := r
  cases r1 with
  | none => exact bX10_fault_5 (fun _ => bX10_fault_20 (bX10_fault_21 K')) (fun h => absurd w3 h)
  | some p =>
    refine bX10_fault_5 (fun h => absurd (w3.symm.trans h) (show ¬ i_b true = 0 by decide)) (fun _ => bX10_fault_13 ?_)
    rw [show I1 3160 0 = nI p from w4 p rfl]
    exact bX10_fault_21 K'
theorem s_tell {σ : g_St} {T : Nat → Nat} {len : Nat} {I : Nat → Nat → Int32} {L : Nat → Int64} {Q : Option Value → (Nat → Nat → Int32) → (Nat → Int64) → Prop} (hok : g_okS σ) (hS : mSt I σ) (hT : mT I T len)
    (K0 : ∀ I', Sm S_r0 I I' → (g_ps T len 24 σ.1 (g_El σ.2.1 σ.2.2.1 σ.2.2.2.1) 0).1 ≠ none → Q (some (.int (-4))) I' L)
    (K1 : ∀ I' C, Sm S_tl I I' → g_ps T len 24 σ.1 (g_El σ.2.1 σ.2.2.1 σ.2.2.2.1) 0 = (none, C) → mSt I' (C.foldl g_ap σ) → mGone I I' (g_an C) → (∀ r, r ∈ [3159, 3143, 3171, 3172, 3173, 3174, 3175] → I' r 0 = 0) → I' 3176 0 = -1 → (∀ j, j < 14 → I' 3328 j = 0) → Q (some (.int (nI C.length))) I' L) :
    XS mX10_tell 0 [(0, .ref 49)] [] I L Q := by
  refine bX10_tell_0 (s_reads (D := false) hok hS hT (fun I1 x r hr w1 w2 w3 w4 w5 w6 => ?_))
  have s1 : Sm S_r0 I I1 := w2 rfl
  rcases r with ⟨_ | p, C⟩
  · refine bX10_tell_5 (fun _ => bX10_tell_16 ?_) (fun h => absurd w3 h)
    refine s_reads (D := true) hok (hS.sm s1 (by decide) (by decide) (by decide) (by decide) (by decide)) (hT.sm s1 (by decide) (by decide)) (fun I2 x2 r2 hr2 y1 y2 y3 y4 y5 y6 => ?_)
    rw [hr] at hr2
    subst hr2
    obtain ⟨z1, z2⟩ := y5 rfl rfl
    have e6 : x2 = nI C.length := y6 rfl
    rw [e6]
    refine bX10_tell_21 ?_
    have sA : Sm [3159, 3143, 3171, 3172, 3173, 3174, 3175, 3176] I2 (x_up (x_up (x_up (x_up (x_up (x_up (x_up (x_up I2 3159 0 0) 3143 0 0) 3171 0 0) 3172 0 0) 3173 0 0) 3174 0 0) 3175 0 0) 3176 0 (-1)) := (((((((Sm.rf.up (by decide)).up (by decide)).up (by decide)).up (by decide)).up (by decide)).up (by decide)).up (by decide)).up (by decide)
    have b1 : ∀ r, r ∈ [3159, 3143, 3171, 3172, 3173, 3174, 3175] → (x_up (x_up (x_up (x_up (x_up (x_up (x_up (x_up I2 3159 0 0) 3143 0 0) 3171 0 0) 3172 0 0) 3173 0 0) 3174 0 0) 3175 0 0) 3176 0 (-1)) r 0 = 0 := fun r hr => by
      simp only [List.mem_cons, List.not_mem_nil, or_false] at hr
      rcases hr with rfl | rfl | rfl | rfl | rfl | rfl | rfl <;> simp [x_up, upd]
    have b2 : (x_up (x_up (x_up (x_up (x_up (x_up (x_up (x_up I2 3159 0 0) 3143 0 0) 3171 0 0) 3172 0 0) 3173 0 0) 3174 0 0) 3175 0 0) 3176 0 (-1)) 3176 0 = -1 := x_up_at
    generalize (x_up (x_up (x_up (x_up (x_up (x_up (x_up (x_up I2 3159 0 0) 3143 0 0) 3171 0 0) 3172 0 0) 3173 0 0) 3174 0 0) 3175 0 0) 3176 0 (-1)) = I3 at sA b1 b2 ⊢
    have loop : ∀ k l I4, l + k = 14 → Sm [3328] I3 I4 → (∀ j, j < l → I4 3328 j = 0) → XS mX10_tell 64 [(0, .ref 49), (1, .int (nI C.length)), (2, .int (nI l))] [] I4 L Q := by
      intro k
      induction k with
      | zero =>
        intro l I4 hl s4 hc
        refine bX10_tell_64 (fun _ => bX10_tell_83 ?_) (fun h => absurd ((i_le 14 l rfl rfl (by decide) (by omega)).mpr (by omega)) h)
        have s24 : Sm [3159, 3143, 3171, 3172, 3173, 3174, 3175, 3176, 3328] I2 I4 := (sA.mono (by decide)).tr (s4.mono (by decide))
        obtain ⟨d1, d2, d3⟩ := z2
        refine K1 I4 C (((s1.mono (by decide)).tr (y1.mono (by decide))).tr (s24.mono (by decide))) hr (z1.sm s24 (by decide) (by decide) (by decide) (by decide) (by decide)) ⟨?_, ?_, ?_⟩ (fun r hr => ?_) ?_ (fun j hj => hc j (by omega))
        · rw [s24 _ (by decide), d1, s1 _ (by decide)]
        · rw [s24 _ (by decide), d2, s1 _ (by decide)]
        · rw [s24 _ (by decide), d3, s1 _ (by decide)]
        · have := b1 r hr
          rw [s4 r (by
            simp only [List.mem_cons, List.not_mem_nil, or_false] at hr
            rcases hr with rfl | rfl | rfl | rfl | rfl | rfl | rfl <;> decide)]
          exact this
        · rw [s4 _ (by decide)]; exact b2
      | succ k ih =>
        intro l I4 hl s4 hc
        refine bX10_tell_64 (fun h => ?_) (fun _ => bX10_tell_70 (vp_in_nI (by omega) (by decide)) ?_)
        · have := (i_le 14 l rfl rfl (by decide) (by omega)).mp h; omega
        · rw [nI_clamp (by omega), nI_1]
          refine ih (l + 1) _ (by omega) (s4.up (by decide)) (fun j hj => ?_)
          by_cases hjl : j = l
          · subst hjl; rw [x_up_at]
          · rw [x_up_off hjl]; exact hc j (by omega)
    exact loop 14 0 I3 (by omega) Sm.rf (fun j hj => by omega)
  · refine bX10_tell_5 (fun h => absurd (w3.symm.trans h) (show ¬ i_b true = 0 by decide)) (fun _ => bX10_tell_13 (K0 I1 s1 ?_))
    rw [hr]
    intro q
    cases q
