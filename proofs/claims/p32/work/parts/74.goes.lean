/-! ===== a letter goes over links that are up ===== -/
theorem q_pth_at {n ln U : Nat} {lo hi : Nat → Nat} {x : Nat → Nat} : ∀ {P : List Nat}, q_pth n ln lo hi U x P → ∀ i, i + 1 < P.length → P.getD (i + 1) 0 < n ∧ P.getD i 0 < n ∧ ∃ l, g_lk ln lo hi (P.getD (i + 1) 0) (P.getD i 0) = some l ∧ U.testBit l = true ∧ 1 ≤ x l
  | [], _, i, hi => by simp at hi
  | [_], _, i, hi => by simp at hi
  | v :: u :: P, h, 0, _ => ⟨q_pth_head h.2.2, h.1, h.2.1⟩
  | v :: u :: P, h, i + 1, hi => by
    have hi' : i + 1 < (u :: P).length := by simp only [List.length_cons] at hi ⊢; omega
    exact q_pth_at h.2.2 i hi'
theorem q_last (Pn : List Nat) (u : Nat) : (Pn ++ [u]).getD ((Pn ++ [u]).length - 1 - 0) 0 = u := by
  rw [List.length_append, show Pn.length + ([u] : List Nat).length - 1 - 0 = Pn.length + 0 from by show Pn.length + 1 - 1 - 0 = _; omega, t_at]
  rfl
theorem i_nle_neg {n : Nat} {x : Int32} (hn : n < 2 ^ 31) (hx : x < 0) : ¬ nI n ≤ x := fun q => nI_nneg hn (Int32.lt_of_le_of_lt q hx)
theorem Cl.X {S : q_S} {I : Nat → Nat → Int32} (h : Cl I S) (l : Nat) : (sL S).2.2.2.2.1 l < 2 ^ 31 := by
  obtain ⟨⟨n, ln, lo, hi, c0, c1, U, seen⟩, F, w, pr, ⟨a, H⟩, ⟨s, th0, md0, lt0, X, P0, mm0⟩, t, G⟩ := S
  obtain ⟨h1, h2, h3, h4, h5, r1, h7, ⟨l0, l1, l2, l3, l4, l5, l6, l7, l8, l9⟩, h9⟩ := h
  have := l2 l
  show X l < 2 ^ 31
  omega
set_option maxHeartbeats 2000000 in
theorem l_goes {S : q_S} {I : Nat → Nat → Int32} {L : Nat → Int64} {Q : Option Value → (Nat → Nat → Int32) → (Nat → Int64) → Prop} {x : Int32} (u : Nat) (hx : x = nI u) (hu : u < S.1.1) (hs : (sL S).1 + 1 < 1000000) (hG : gR (sG S) S.1.1 S.1.2.1 S.1.2.2.1 S.1.2.2.2.1) (h : Cl I S) (K : ∀ (I' : Nat → Nat → Int32) (L' : Nat → Int64) (z : q_Le), z.1 = (sL S).1 + 1 → Cl I' (uL S z) → Q (some (.int 1)) I' L') : XS mL_goes 0 [(0, .ref 0), (1, .ref 49), (2, .int x)] [] I L Q := by
  subst hx
  obtain ⟨-, hn8, hln, hN⟩ := g_okS_E h.1
  refine bL_goes_0 (k_send u rfl hu hs h (fun I L R th md lt x' hLL hLX h => bL_goes_5 ?_))
  obtain ⟨w1, w2, w3, ⟨Pn, w4⟩, w5, w6, w7⟩ := hLX
  generalize hz : ((sL S).1 + 1, th, md, lt, x', R.2.1, R.2.2.2) = z at h
  have zs : (sL (uL S z)).1 = (sL S).1 + 1 := by rw [← hz]
  have zX : (sL (uL S z)).2.2.2.2.1 = x' := by rw [← hz]
  have zP : (sL (uL S z)).2.2.2.2.2.1 = R.2.1 := by rw [← hz]
  have hs0 : 0 < (sL (uL S z)).1 := by rw [zs]; omega
  have hP1 : 1 ≤ R.2.1.length := by rw [w4]; simp
  refine k_wayHops hs0 h (fun I L h => ?_)
  rw [zP]
  have hlen : R.2.1.length - 1 ≤ 20 := by omega
  -- the hops, one by one
  have loop : ∀ d k I L, k + d = R.2.1.length → 1 ≤ k → Cl I (uL S z) → XS mL_goes 89 [(0, .ref 0), (1, .ref 49), (4, .int (nI (R.2.1.length - 1))), (5, .int (nI k))] [] I L Q := by
    intro d
    induction d with
    | zero =>
      intro k I L hk h1 h
      exact bL_goes_89 (fun _ => bL_goes_151 (K I L z (by rw [← zs]) h)) (fun q => absurd ((i_lt (R.2.1.length - 1) k rfl rfl (by omega) (by omega)).mpr (by omega)) q)
    | succ d ih =>
      intro k I L hk h1 h
      refine bL_goes_89 (fun q => ?_) (fun _ => bL_goes_96 ?_)
      · have := (i_lt (R.2.1.length - 1) k rfl rfl (by omega) (by omega)).mp q; omega
      rw [show nI k - (1 : Int32) = nI (k - 1) from i_sub (a := k) (b := 1) h1]
      obtain ⟨p1, p2, l, p3, p4, p5⟩ := q_pth_at w6 (R.2.1.length - 1 - k) (by omega)
      rw [show R.2.1.length - 1 - k + 1 = R.2.1.length - 1 - (k - 1) by omega] at p1 p3
      refine k_wayAt (k - 1) rfl hs0 (by rw [zP]; omega) h (fun I L h => bL_goes_105 (k_wayAt k rfl hs0 (by rw [zP]; omega) h (fun I L h => bL_goes_111 ?_)))
      rw [zP]
      have hgR : gR (I 3136) S.1.1 S.1.2.1 S.1.2.2.1 S.1.2.2.2.1 := by rw [h.gg]; exact hG
      refine l_linkOf _ _ rfl rfl hN hgR (by omega) (by omega) ?_
      rw [p3]
      have hl := (g_lk_lt hN p3).1
      refine bL_goes_114 (fun q => absurd q (nI_nneg (by omega))) (fun _ => bL_goes_121 (k_link (S := uL S z) l 4 rfl rfl hl (by decide) h (fun I L h => bL_goes_128 (fun q => ?_) (fun _ => bL_goes_132 (k_link (S := uL S z) l 5 rfl rfl hl (by decide) h (fun I L h => bL_goes_139 (fun _ => bL_goes_145 ?_) (fun q => ?_)))))))
      · refine absurd ?_ q
        show i_b (S.1.2.2.2.2.2.2.1.testBit l) = 1
        rw [p4]; rfl
      · rw [nI_1]
        exact ih (k + 1) I L (by omega) (by omega) h
      · refine absurd ?_ q
        show (1 : Int32) ≤ nI ((sL (uL S z)).2.2.2.2.1 l)
        exact (i_le 1 _ rfl rfl (by decide) (h.X l)).mpr (by rw [zX]; exact p5)
  have on86 : ∀ I L, Cl I (uL S z) → XS mL_goes 86 [(0, .ref 0), (1, .ref 49), (4, .int (nI (R.2.1.length - 1)))] [] I L Q := fun I L h => bL_goes_86 (loop (R.2.1.length - 1) 1 I L (by omega) (Nat.le_refl 1) h)
  have on71 : ∀ I L, Cl I (uL S z) → XS mL_goes 71 [(0, .ref 0), (1, .ref 49), (3, .int R.1), (4, .int (nI (R.2.1.length - 1)))] [] I L Q := fun I L h => by
    refine bL_goes_71 (fun _ => on86 I L h) (fun q => bL_goes_77 (fun _ => on86 I L h) (fun q2 => ?_))
    have h21 : R.2.1.length = 21 := by
      rcases w7 with ⟨v, e, hv, -⟩ | e | e | e | ⟨-, e⟩
      · rw [e] at q; exact absurd q.symm (i_neg (by decide) (by omega))
      · rw [e] at q; exact absurd q (by decide)
      · rw [e] at q; exact absurd q (by decide)
      · rw [e] at q; exact absurd q (by decide)
      · exact e
    rw [h21] at q2
    exact absurd rfl q2
  have on36 : ∀ I L, Cl I (uL S z) → XS mL_goes 36 [(0, .ref 0), (1, .ref 49), (2, .int (nI u)), (3, .int R.1), (4, .int (nI (R.2.1.length - 1)))] [] I L Q := fun I L h => by
    refine bL_goes_36 (fun q => absurd q (nI_nneg (by omega))) (fun _ => bL_goes_41 (fun q => ?_) (fun _ => bL_goes_48 (k_wayAt 0 rfl hs0 (by rw [zP]; omega) h (fun I L h => bL_goes_53 (fun q => ?_) (fun _ => bL_goes_57 (fun _ => on71 I L h) (fun q => bL_goes_61 (k_wayAt (R.2.1.length - 1) rfl hs0 (by rw [zP]; omega) h (fun I L h => bL_goes_67 (fun q2 => ?_) (fun _ => on71 I L h)))))))))
    · have := (i_lt 20 (R.2.1.length - 1) rfl rfl (by decide) (by omega)).mp q; omega
    · refine absurd ?_ q
      rw [zP, w4, q_last]
    · refine absurd ?_ q2
      rw [zP, show R.2.1.length - 1 - (R.2.1.length - 1) = 0 by omega]
      rcases w7 with ⟨v, e, hv, e2⟩ | e | e | e | ⟨e, -⟩
      · rw [e]
        cases hR : R.2.1 with
        | nil => rw [hR] at e2; cases e2
        | cons a P =>
          rw [hR] at e2
          injection e2 with e2
          rw [e2]; rfl
      · rw [e] at q; exact absurd (by decide) q
      · rw [e] at q; exact absurd (by decide) q
      · rw [e] at q; exact absurd (by decide) q
      · rw [e] at q; exact absurd (by decide) q
  refine bL_goes_11 (fun q => ?_) (fun _ => bL_goes_20 (fun _ => on36 I L h) (fun q => bL_goes_24 (fun q2 => ?_) (fun _ => bL_goes_30 (fun q2 => ?_) (fun _ => on36 I L h))))
  · rw [h.gg] at q
    have q : nI S.1.1 ≤ R.1 := by rw [← hG.1]; exact q
    rcases w7 with ⟨v, e, hv, -⟩ | e | e | e | ⟨e, -⟩
    · rw [e] at q
      have := (i_le S.1.1 v rfl rfl (by omega) (by omega)).mp q; omega
    · rw [e] at q; exact absurd q (i_nle_neg (by omega) (by decide))
    · rw [e] at q; exact absurd q (i_nle_neg (by omega) (by decide))
    · rw [e] at q; exact absurd q (i_nle_neg (by omega) (by decide))
    · rw [e] at q; exact absurd q (i_nle_neg (by omega) (by decide))
  · rcases w7 with ⟨v, e, hv, -⟩ | e | e | e | ⟨e, -⟩
    · rw [e] at q; exact absurd (Int32.not_lt.mp (nI_nneg (by omega))) q
    · rw [e] at q2; exact absurd q2 (by decide)
    · rw [e] at q2; exact absurd q2 (by decide)
    · rw [e] at q2; exact absurd q2 (by decide)
    · rw [e] at q2; exact absurd q2 (by decide)
  · rcases w7 with ⟨v, e, hv, -⟩ | e | e | e | ⟨e, -⟩
    · rw [e] at q; exact absurd (Int32.not_lt.mp (nI_nneg (by omega))) q
    · rw [e] at q2; exact absurd q2 (by decide)
    · rw [e] at q2; exact absurd q2 (by decide)
    · rw [e] at q2; exact absurd q2 (by decide)
    · rw [e] at q2; exact absurd q2 (by decide)
