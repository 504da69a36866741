/-! ===== the law's body ===== -/
abbrev XL (Ln : Nat) (xs : Nat → Int32) (pc : Nat) (ls : List (Nat × Value)) (st : List Value) (I : Nat → Nat → Int32) (L : Nat → Int64) (Q : Option Value → (Nat → Nat → Int32) → (Nat → Int64) → Prop) : Prop := XT (50, 1188) Ln xs mL_law pc ls st I L Q
theorem q_kp_gs {S S' : q_S} (h : q_kp S S') (hG : gS S) (hT : sT S = []) : gS S' ∧ sT S' = [] := ⟨gS_kp h hG, h.2.2.2.2.2.trans hT⟩
theorem Cl.h0 {S : q_S} {I : Nat → Nat → Int32} (h : Cl I S) : (sA S).2 0 = g_ho S.1 := by
  obtain ⟨ah, -, -, -, -, p6, -⟩ := h.2.2.2.2.2.2.1
  exact p6
theorem Cl.a8 {S : q_S} {I : Nat → Nat → Int32} (h : Cl I S) : (sA S).1 ≤ 8 := by
  obtain ⟨ah, p1, -⟩ := h.2.2.2.2.2.2.1
  exact p1
theorem g_ap_new (σ : g_St) (n : Nat) : ∃ lo hi c0 c1, g_ap σ (.inl n) = (n, 0, lo, hi, c0, c1, 0, fun _ => 0) := by
  obtain ⟨m, ln, lo, hi, c0, c1, U, seen⟩ := σ
  exact ⟨lo, hi, c0, c1, rfl⟩
/-! ===== the end: all undone, nodes told anew ===== -/
theorem law_end {S : q_S} {Ln : Nat} {xs : Nat → Int32} {I : Nat → Nat → Int32} {L : Nat → Int64} {Q : Option Value → (Nat → Nat → Int32) → (Nat → Int64) → Prop} (hG : gS S) (hT : sT S = []) (ha : (sA S).1 = 0) (h : Cl I S) (K : ∀ I' L', Q (some (.int 1)) I' L') : XL Ln xs 676 [(1, .ref 0), (2, .ref 49)] [] I L Q := by
  obtain ⟨hn2, hn8, -, -⟩ := g_okS_E h.1
  refine bL_law_676 (k_undoNot ha h (fun I L h => bL_law_680 (fun _ => bL_law_687 ?_) (fun q => absurd rfl q)))
  have h : Cl I (uT S []) := by rw [← hT]; exact h
  refine l_says 110 111 100 101 rfl rfl rfl rfl (by decide) (by decide) h (fun I L h => bL_law_699 ?_)
  have e0 : I 3136 0 = nI S.1.1 := by rw [h.gg]; exact hG.1
  rw [e0]
  refine l_says 115 (48 + S.1.1) 32 32 rfl (nI_add 48 S.1.1) rfl rfl (by omega) (by decide) h (fun I L h => bL_law_715 ?_)
  have h : Cl I (uT S (q_txt S.1.1 [])) := h
  have hps := oFt_txt (σ := S.1) (n := S.1.1) (B := []) ⟨hn2, hn8⟩ (fun p hp => by cases hp) (by simp)
  refine k_tell [.inl S.1.1] hps rfl h (fun I L m W H hok h => bL_law_719 (fun q => absurd rfl q) (fun _ => bL_law_723 ?_))
  obtain ⟨lo, hi, c0, c1, e⟩ := g_ap_new S.1 S.1.1
  have h : Cl I (g_ap S.1 (.inl S.1.1), [], (0, W), false, (0, H), q_L0, [], sG S) := h
  rw [e] at h
  generalize hz : (((S.1.1, 0, lo, hi, c0, c1, 0, fun _ => 0), [], (0, W), false, (0, H), q_L0, [], sG S) : q_S) = Z at h
  have z0 : oCt Z 0 = nI S.1.1 := by rw [← hz]; rfl
  have z1 : oCt Z 1 = 0 := by rw [← hz]; rfl
  have z4 : oCt Z 4 = 0 := by rw [← hz]; rfl
  have z5 : oCt Z 5 = 0 := by rw [← hz]; rfl
  have z6 : oCt Z 6 = 0 := by rw [← hz]; rfl
  have z7 : oCt Z 7 = 0 := by rw [← hz]; rfl
  have z13 : oCt Z 13 = 0 := by rw [← hz]; rfl
  have zG : sG Z = sG S := by rw [← hz]
  have zl : (sL Z).1 = 0 := by rw [← hz]; rfl
  have zs : Z.1.2.2.2.2.2.2.2 0 = 0 := by rw [← hz]
  have zn : Z.1.1 = S.1.1 := by rw [← hz]
  have zln : Z.1.2.1 = 0 := by rw [← hz]
  refine k_count 0 rfl (by decide) h (fun I L h => bL_law_728 (fun q => ?_) (fun _ => bL_law_734 ?_))
  · rw [z0, h.gg, zG] at q
    exact absurd hG.1.symm q
  refine k_count 1 rfl (by decide) h (fun I L h => bL_law_739 (fun q => absurd z1 q) (fun _ => bL_law_742 ?_))
  refine k_count 4 rfl (by decide) h (fun I L h => bL_law_747 (fun q => absurd z4 q) (fun _ => bL_law_750 ?_))
  refine k_count 5 rfl (by decide) h (fun I L h => bL_law_755 (fun q => absurd z5 q) (fun _ => bL_law_758 ?_))
  refine k_count 6 rfl (by decide) h (fun I L h => bL_law_764 (fun q => absurd z6 q) (fun _ => bL_law_767 ?_))
  refine k_count 7 rfl (by decide) h (fun I L h => bL_law_773 (fun q => absurd z7 q) (fun _ => bL_law_776 ?_))
  refine k_count 13 rfl (by decide) h (fun I L h => bL_law_782 (fun q => absurd z13 q) (fun _ => bL_law_785 ?_))
  refine k_way0 (by decide) zl h (fun I L h => bL_law_790 (fun q => absurd rfl q) (fun _ => bL_law_794 ?_))
  refine k_seen 0 rfl (by rw [zn]; omega) h (fun I L h => bL_law_799 (fun q => absurd (by rw [zs]; rfl) q) (fun _ => bL_law_802 ?_))
  refine k_linkBad (by rw [zln]; decide) h (fun I L h => bL_law_808 (fun q => absurd rfl q) (fun _ => bL_law_813 (bL_law_818 (Or.inr rfl) (K I L))))
theorem law_undo {Ln : Nat} {xs : Nat → Int32} {Q : Option Value → (Nat → Nat → Int32) → (Nat → Int64) → Prop} (K : ∀ I' L', Q (some (.int 1)) I' L') : ∀ a I L (S : q_S), (sA S).1 = a → gS S → sT S = [] → Cl I S → XL Ln xs 658 [(1, .ref 0), (2, .ref 49)] [] I L Q := by
  intro a
  induction a with
  | zero =>
    intro I L S ha hG hT h
    refine bL_law_658 (k_count 11 rfl (by decide) h (fun I L h => bL_law_664 (fun _ => law_end hG hT ha h K) (fun q => absurd ?_ q)))
    show nI (sA S).1 ≤ 0
    rw [ha]
    decide
  | succ a ih =>
    intro I L S ha hG hT h
    have h8 := h.a8
    refine bL_law_658 (k_count 11 rfl (by decide) h (fun I L h => bL_law_664 (fun q => ?_) (fun _ => bL_law_667 (k_undo (by omega) h (fun I L h => bL_law_671 (fun _ => ?_) (fun q => absurd (Int32.not_lt.mp (nI_nneg (by omega))) q))))))
    · have := (i_le (sA S).1 0 rfl rfl (by omega) (by decide)).mp q; omega
    · exact ih I L (q_un S) (by show (sA S).1 - 1 = a; omega) hG hT h
/-! ===== arrives, twice ===== -/
theorem law_arr {S : q_S} {Ln : Nat} {xs : Nat → Int32} {I : Nat → Nat → Int32} {L : Nat → Int64} {Q : Option Value → (Nat → Nat → Int32) → (Nat → Int64) → Prop} (hL : Ln ≤ 260) (hG : gS S) (hT : sT S = []) (hs : (sL S).1 + 2 < 1000000) (h : Cl I S) (K : ∀ I' L', Q (some (.int 1)) I' L') : XL Ln xs 628 [(0, .ref 1000020), (1, .ref 0), (2, .ref 49)] [] I L Q := by
  refine bL_law_628 (l_cell 31 rfl (by decide) hL (fun v => bL_law_636 (l_arrives hG (by omega) h (fun I L S1 k1 s1 h => bL_law_639 (fun q => absurd q (by decide)) (fun _ => bL_law_642 ?_)))))
  obtain ⟨hG1, hT1⟩ := q_kp_gs k1 hG hT
  refine l_cell 32 rfl (by decide) hL (fun v => bL_law_650 (l_arrives hG1 (by omega) h (fun I L S2 k2 s2 h => bL_law_653 (fun _ => ?_) (fun q => absurd q (by decide)))))
  obtain ⟨hG2, hT2⟩ := q_kp_gs k2 hG1 hT1
  exact law_undo K (sA S2).1 I L S2 rfl hG2 hT2 h
/-! ===== the order ===== -/
theorem law_ord {Ln : Nat} {xs : Nat → Int32} {Q : Option Value → (Nat → Nat → Int32) → (Nat → Int64) → Prop} (hL : Ln ≤ 260) (K : ∀ I' L', Q (some (.int 1)) I' L') (M : Nat) (hM : M ≤ 8) : ∀ d k I L (S : q_S), k + d = M → g_pc S.1.1 (q_bh S.1) = d → g_can (q_sf S.1) S.1.1 (q_bh S.1) 0 → gS S → sT S = [] → (sL S).1 + 2 < 1000000 → Cl I S → XL Ln xs 545 [(0, .ref 1000020), (1, .ref 0), (2, .ref 49), (4, .int (nI M)), (5, .int (nI k))] [] I L Q := by
  intro d
  induction d with
  | zero =>
    intro k I L S hk hp hc hG hT hs h
    exact bL_law_545 (fun _ => law_arr hL hG hT hs h K) (fun q => absurd ((i_le M k rfl rfl (by omega) (by omega)).mpr (by omega)) q)
  | succ d ih =>
    intro k I L S hk hp hc hG hT hs h
    obtain ⟨hn2, hn8, hln, -⟩ := g_okS_E h.1
    refine bL_law_545 (fun q => ?_) (fun _ => bL_law_552 (k_ord h (fun I L r h hr => ?_)))
    · have := (i_le M k rfl rfl (by omega) (by omega)).mp q; omega
    obtain ⟨v, e, hv, hb, hsf, hc', hp'⟩ := q_first hc (by omega) hr
    subst e
    refine bL_law_558 (k_safe v rfl hv h (fun I L h => bL_law_561 (fun q => absurd (by rw [hsf]; rfl) q) (fun _ => bL_law_565 (k_ord h (fun I L r h hr2 => ?_)))))
    have e := g_OA_uni hr2 hr
    subst e
    refine bL_law_571 (k_learn v rfl hv h (fun I L w hw h => bL_law_574 (fun q => absurd q (nI_nneg (by omega))) (fun _ => bL_law_577 (k_ord h (fun I L r h hr3 => ?_)))))
    have e := q_OA_can (σ := q_le S.1 v) hc' hr3
    have e2 : g_pc S.1.1 (q_bh (q_le S.1 v)) = d := by omega
    have e3 : r = nI d := e.trans (congrArg nI e2)
    subst e3
    have e4 : nI M - (1 : Int32) - nI k = nI d := by
      rw [show nI M - (1 : Int32) = nI (M - 1) from i_sub (a := M) (b := 1) (by omega), i_sub (a := M - 1) (b := k) (by omega)]
      exact congrArg nI (by omega)
    refine bL_law_582 (fun _ => bL_law_594 ?_) (fun q => absurd e4.symm q)
    have hkp : q_kp S (q_do S (q_le S.1 v)) := ⟨rfl, rfl, rfl, rfl, rfl, rfl⟩
    obtain ⟨hG', hT'⟩ := q_kp_gs hkp hG hT
    have rl : ∀ f w I L, w + f = S.1.1 → Cl I (q_do S (q_le S.1 v)) → XL Ln xs 597 [(0, .ref 1000020), (1, .ref 0), (2, .ref 49), (4, .int (nI M)), (5, .int (nI k)), (6, .int (nI w))] [] I L Q := by
      intro f
      induction f with
      | zero =>
        intro w I L hw h
        refine bL_law_597 (fun _ => bL_law_622 ?_) (fun q => ?_)
        · rw [nI_1]
          exact ih (k + 1) I L (q_do S (q_le S.1 v)) (by omega) e2 hc' hG' hT' hs h
        · rw [h.gg, hG'.1] at q
          exact absurd ((nI_leI (a := S.1.1) (b := w) (by omega) (by omega)).mpr (by omega)) q
      | succ f ihw =>
        intro w I L hw h
        refine bL_law_597 (fun q => ?_) (fun _ => bL_law_605 (k_rings (S := q_do S (q_le S.1 v)) w rfl (by show w < S.1.1; omega) h (fun I L h => bL_law_611 (fun _ => bL_law_616 ?_) (fun q => absurd ?_ q))))
        · rw [h.gg, hG'.1] at q
          have := (nI_leI (a := S.1.1) (b := w) (by omega) (by omega)).mp q; omega
        · rw [nI_1]
          exact ihw (w + 1) I L (by omega) h
        · show nI (q_rm (q_le S.1 v) 0 w) = 0
          rw [q_rm_0 hsf (by omega)]
          rfl
    exact rl S.1.1 0 I L (Nat.zero_add _) h
theorem law_mid {S : q_S} {Ln : Nat} {xs : Nat → Int32} {I : Nat → Nat → Int32} {L : Nat → Int64} {Q : Option Value → (Nat → Nat → Int32) → (Nat → Int64) → Prop} (hL : Ln ≤ 260) (hG : gS S) (hT : sT S = []) (hs : (sL S).1 + 4 < 1000000) (h : Cl I S) (K : ∀ I' L', Q (some (.int 1)) I' L') : XL Ln xs 490 [(0, .ref 1000020), (1, .ref 0), (2, .ref 49)] [] I L Q := by
  refine bL_law_490 (l_refused h (fun I L h => bL_law_494 (fun q => absurd q (by decide)) (fun _ => bL_law_497 (l_faults h (fun I L h => bL_law_501 (fun q => absurd q (by decide)) (fun _ => bL_law_504 ?_))))))
  have h : Cl I S := by
    have e : uT S [] = S := by rw [← hT]
    rw [← e]; exact h
  obtain ⟨hn2, hn8, hln, -⟩ := g_okS_E h.1
  refine l_cell 30 rfl (by decide) hL (fun v => bL_law_512 (l_part S.1.1 (by rw [h.gg]; exact hG.1) (by omega) (by omega) (fun u hu => bL_law_518 ?_)))
  refine l_goes u rfl hu (by omega) hG h (fun I L z1 e1 h => bL_law_521 (fun q => absurd q (by decide)) (fun _ => bL_law_524 ?_))
  have k1 : q_kp S (uL S z1) := ⟨rfl, rfl, rfl, rfl, rfl, rfl⟩
  obtain ⟨hG1, hT1⟩ := q_kp_gs k1 hG hT
  refine l_goes (S := uL S z1) 0 rfl (by show 0 < S.1.1; omega) (by show z1.1 + 1 < 1000000; omega) hG1 h (fun I L z2 e2 h => bL_law_530 (fun _ => bL_law_535 ?_) (fun q => absurd q (by decide)))
  have e2 : z2.1 = z1.1 + 1 := e2
  have k2 : q_kp S (uL (uL S z1) z2) := ⟨rfl, rfl, rfl, rfl, rfl, rfl⟩
  obtain ⟨hG2, hT2⟩ := q_kp_gs k2 hG hT
  refine k_ord (S := uL (uL S z1) z2) h (fun I L r h hr => bL_law_540 ?_)
  rcases q_many hr with e | ⟨hc, e⟩
  · subst e
    exact bL_law_545 (fun _ => law_arr hL hG2 hT2 (by show z2.1 + 2 < 1000000; omega) h K) (fun q => absurd (by decide) q)
  · subst e
    have hp8 : g_pc S.1.1 (q_bh S.1) ≤ 8 := Nat.le_trans (g_pc_le _ _) hn8
    exact law_ord hL K (g_pc S.1.1 (q_bh S.1)) hp8 _ 0 I L (uL (uL S z1) z2) (Nat.zero_add _) rfl hc hG2 hT2 (by show z2.1 + 2 < 1000000; omega) h
/-! ===== the deeds ===== -/
theorem q_pu_ge {σ : g_St} {F : List (Nat × Nat)} {a b : Nat} (hF : F.length ≤ 8) : ¬ (q_pu σ F a b).1 < (-5 : Int32) := by
  have e : (q_pu σ F a b).1 = nI (F.length + 1) ∨ (q_pu σ F a b).1 = -5 ∨ (q_pu σ F a b).1 = -2 := by
    unfold q_pu
    by_cases h1 : (if a = 2 then decide (b < σ.2.1) else decide (b < σ.1)) = true
    · rw [if_pos h1]
      by_cases h2 : F.length < 8
      · rw [if_pos h2]; exact Or.inl rfl
      · rw [if_neg h2]; exact Or.inr (Or.inl rfl)
    · rw [if_neg h1]; exact Or.inr (Or.inr rfl)
  rcases e with e | e | e
  · rw [e]
    exact fun z => nI_nneg (v := F.length + 1) (by omega) (Int32.lt_trans z (by decide))
  · rw [e]; decide
  · rw [e]; decide
set_option maxHeartbeats 4000000 in
theorem law_do {Ln : Nat} {xs : Nat → Int32} {Q : Option Value → (Nat → Nat → Int32) → (Nat → Int64) → Prop} (hL : Ln ≤ 260) (K : ∀ I' L', Q (some (.int 1)) I' L') : ∀ d k I L (S : q_S), k + d = 14 → gS S → sT S = [] → (sL S).1 ≤ k → Cl I S → XL Ln xs 69 [(0, .ref 1000020), (1, .ref 0), (2, .ref 49), (3, .int (nI (sA S).1)), (4, .int (nI k))] [] I L Q := by
  intro d
  induction d with
  | zero =>
    intro k I L S hk hG hT hs h
    exact bL_law_69 (fun _ => law_mid hL hG hT (by omega) h K) (fun q => absurd ((i_le 14 k rfl rfl (by decide) (by omega)).mpr (by omega)) q)
  | succ d ih =>
    intro k I L S hk hG hT hs h
    obtain ⟨hn2, hn8, hln, -⟩ := g_okS_E h.1
    have a8 := h.a8
    have hh0 := h.h0
    have hF8 := h.2.2.2.1.1
    have nxt : ∀ I L (S' : q_S), q_kp S S' → (sL S').1 ≤ k + 1 → Cl I S' → XL Ln xs 484 [(0, .ref 1000020), (1, .ref 0), (2, .ref 49), (3, .int (nI (sA S').1)), (4, .int (nI k))] [] I L Q := by
      intro I L S' hkp hs' h
      obtain ⟨hG', hT'⟩ := q_kp_gs hkp hG hT
      refine bL_law_484 ?_
      rw [nI_1]
      exact ih (k + 1) I L S' (by omega) hG' hT' hs' h
    refine bL_law_69 (fun q => ?_) (fun _ => bL_law_76 ?_)
    · have := (i_le 14 k rfl rfl (by decide) (by omega)).mp q; omega
    rw [show (16 : Int32) + nI k = nI (16 + k) from nI_add 16 k]
    refine l_cell (16 + k) rfl (by omega) hL (fun x => bL_law_85 (l_whole h (fun I L h => bL_law_91 ?_)))
    have eG : ∀ {I : Nat → Nat → Int32}, Cl I S → I 3136 0 = nI S.1.1 := fun h => by rw [h.gg]; exact hG.1
    have eG1 : ∀ {I : Nat → Nat → Int32}, Cl I S → I 3136 1 + (1 : Int32) = nI (S.1.2.1 + 1) := fun h => by rw [h.gg, hG.2.1, nI_1]
    refine l_part S.1.1 (eG h) (by omega) (by omega) (fun u hu => bL_law_103 (l_part S.1.1 (eG h) (by omega) (by omega) (fun w hw => bL_law_116 (l_part 8 rfl (by decide) (by decide) (fun how hhow => bL_law_125 (l_part (S.1.2.1 + 1) (eG1 h) (by omega) (by omega) (fun l hl => ?_)))))))
    -- behind a deed
    have on381 : how ≠ 7 → ∀ I L (v : Int32), ((v < 0 ∧ Cl I S) ∨ (¬ v < 0 ∧ ∃ σ', σ'.1 = S.1.1 ∧ σ'.2.1 = S.1.2.1 ∧ σ'.2.2.1 = S.1.2.2.1 ∧ σ'.2.2.2.1 = S.1.2.2.2.1 ∧ Cl I (q_do S σ'))) → XL Ln xs 381 [(0, .ref 1000020), (1, .ref 0), (2, .ref 49), (3, .int (nI (sA S).1)), (4, .int (nI k)), (5, .int x), (6, .long (hW S)), (10, .int (nI how))] [.int v] I L Q := by
      intro h7 I L v hv
      refine bL_law_381 (fun _ => ?_) (fun q => absurd ((i_eq how 7 rfl rfl (by omega) (by decide)).mp q) h7)
      rcases hv with ⟨hv, h⟩ | ⟨hv, σ', e1, e2, e3, e4, h⟩
      · refine bL_law_393 (fun q => absurd hv (Int32.not_lt.mpr q)) (fun _ => bL_law_398 (bL_law_416 (k_count 11 rfl (by decide) h (fun I L h => bL_law_423 (fun q => absurd rfl q) (fun _ => bL_law_427 (fun q => absurd hv (Int32.not_lt.mpr q)) (fun _ => bL_law_432 (l_whole h (fun I L h => bL_law_436 (fun _ => bL_law_444 (fun _ => nxt I L S q_kp.rf (by omega) h) (fun q => absurd hv q)) (fun q => absurd (lg_self _) q)))))))))
      · have hkp : q_kp S (q_do S σ') := ⟨e1, e2, e3, e4, rfl, rfl⟩
        -- what can be undone is one more
        have more : ∀ I L, Cl I (q_do S σ') → XL Ln xs 416 [(0, .ref 1000020), (1, .ref 0), (2, .ref 49), (4, .int (nI k)), (5, .int x), (6, .long (hW S)), (12, .int v)] [.int (nI (min ((sA S).1 + 1) 8))] I L Q := by
          intro I L h
          refine bL_law_416 (k_count (S := q_do S σ') 11 rfl (by decide) h (fun I L h => bL_law_423 (fun q => absurd rfl q) (fun _ => bL_law_427 (fun _ => ?_) (fun q => absurd (Int32.not_lt.mp hv) q))))
          refine bL_law_444 (fun q => absurd q hv) (fun _ => bL_law_449 (l_part 3 rfl (by decide) (by decide) (fun r _ => bL_law_458 (fun _ => nxt I L (q_do S σ') hkp (by show (sL S).1 ≤ k + 1; omega) h) (fun _ => bL_law_461 ?_))))
          have hk : Cl I (q_do S σ') := h
          refine k_undo (S := q_do S σ') (by show 0 < min ((sA S).1 + 1) 8; omega) h (fun I L h => bL_law_468 (fun q => absurd ?_ q) (fun _ => bL_law_472 ?_))
          · show nI (min ((sA S).1 + 1) 8 - 1) = nI (min ((sA S).1 + 1) 8) + (-1 : Int32)
            rw [i_am1]
            exact (i_sub (a := min ((sA S).1 + 1) 8) (b := 1) (by omega)).symm
          · obtain ⟨a, H, e5, e6⟩ := q_un_do S σ' e1 e2 e3 e4 hh0
            rw [e5] at h
            refine l_whole h (fun I L h => bL_law_476 (fun _ => ?_) (fun q => absurd (by rw [hW_uA]; exact lg_self _) q))
            have e7 : nI (min ((sA S).1 + 1) 8) + (-1 : Int32) = nI a := by
              rw [i_am1, ← e6]
              exact nI_pred a
            rw [e7]
            exact nxt I L (uA S (a, H)) ⟨rfl, rfl, rfl, rfl, rfl, rfl⟩ (by show (sL S).1 ≤ k + 1; omega) h
        refine bL_law_393 (fun _ => bL_law_402 (fun q => bL_law_414 ?_) (fun q => bL_law_408 ?_)) (fun q => absurd (Int32.not_lt.mp hv) q)
        · have := (i_le 8 (sA S).1 rfl rfl (by decide) (by omega)).mp q
          have e : min ((sA S).1 + 1) 8 = 8 := by omega
          have := more I L h
          rw [e] at this
          exact this
        · have : ¬ 8 ≤ (sA S).1 := fun z => q ((i_le 8 (sA S).1 rfl rfl (by decide) (by omega)).mpr z)
          have e : min ((sA S).1 + 1) 8 = (sA S).1 + 1 := by omega
          rw [nI_1]
          have := more I L h
          rw [e] at this
          exact this
    refine bL_law_140 (fun q2 => ?_) (fun q2 => bL_law_148 ?_)
    · have h2 := (i_le 2 how rfl rfl (by decide) (by omega)).mp q2
      refine bL_law_199 (fun q => bL_law_287 (fun q3 => bL_law_302 (fun q4 => bL_law_317 (fun q5 => bL_law_354 (fun q6 => bL_law_370 ?_) (fun q6 => bL_law_361 ?_)) (fun q5 => bL_law_323 ?_)) (fun q4 => bL_law_308 ?_)) (fun q3 => bL_law_293 ?_)) (fun q => bL_law_205 ?_)
      · -- protect
        have h7 : how = 7 := by
          have a3 : how ≠ 3 := fun z => q3 (by rw [z]; rfl)
          have a4 : how ≠ 4 := fun z => q4 (by rw [z]; rfl)
          have a5 : how ≠ 5 := fun z => q5 (by rw [z]; rfl)
          have a6 : how ≠ 6 := fun z => q6 (by rw [z]; rfl)
          have a2 : how ≠ 2 := fun z => q (by rw [z]; rfl)
          omega
        obtain ⟨kd, hkd, ekd⟩ := i_and1 (x >>> ((13 : Int32) &&& 31))
        rw [ekd]
        refine k_protect (by rcases (show kd = 0 ∨ kd = 1 by omega) with rfl | rfl; exact Or.inl rfl; exact Or.inr rfl) h (fun I L h => bL_law_381 (fun q => absurd (by rw [h7]; rfl) q) (fun _ => bL_law_390 ?_))
        exact nxt I L (uP S (decide (nI kd = 1))) ⟨rfl, rfl, rfl, rfl, rfl, rfl⟩ (by show (sL S).1 ≤ k + 1; omega) h
      · have h6 : how ≠ 7 := fun z => by rw [z] at q6; exact absurd q6 (by decide)
        exact k_learn u rfl hu h (fun I L v hv h => bL_law_367 (on381 h6 I L _ (Or.inr ⟨nI_nneg (by omega), q_le S.1 u, rfl, rfl, rfl, rfl, h⟩)))
      · have h6 : how ≠ 7 := fun z => by rw [z] at q5; exact absurd q5 (by decide)
        refine l_part 10 rfl (by decide) (by decide) (fun c _ => bL_law_336 (l_part 9 rfl (by decide) (by decide) (fun e _ => bL_law_347 ?_)))
        exact k_tune l rfl (by omega) h (fun I L v hv => bL_law_351 (on381 h6 I L v hv))
      · have h6 : how ≠ 7 := fun z => by rw [z] at q4; exact absurd q4 (by decide)
        exact k_heal l rfl (by omega) h (fun I L v hv => bL_law_314 (on381 h6 I L v hv))
      · have h6 : how ≠ 7 := fun z => by rw [z] at q3; exact absurd q3 (by decide)
        exact k_fail l rfl (by omega) h (fun I L v hv => bL_law_299 (on381 h6 I L v hv))
      · -- the trace
        refine k_trace u rfl hu h (fun I L W1 v1 b1 c1 h => bL_law_211 ?_)
        refine k_trace (S := uW S W1) w rfl hw h (fun I L W2 v2 b2 c2 h => bL_law_218 ?_ ?_)
        · have e : I 3136 0 = nI S.1.1 := by rw [h.gg]; exact hG.1
          rw [e]
          exact fun z => by have := (i_eq S.1.1 0 rfl rfl (by omega) (by decide)).mp z; omega
        have e : I 3136 0 = nI S.1.1 := by rw [h.gg]; exact hG.1
        rw [e, nI_1, pk_rem (by omega) (by omega) (by omega)]
        refine k_trace (S := uW (uW S W1) W2) ((w + 1) % S.1.1) rfl (Nat.mod_lt _ (by omega)) h (fun I L W3 v3 b3 c3 h => bL_law_231 ?_)
        have h : Cl I (uW S W3) := h
        have m8 : W3.1 ≤ 8 := h.2.2.2.2.1.1
        refine k_brief (S := uW S W3) (by decide) h (fun I L h hb => bL_law_237 (k_count (S := uW S W3) 5 rfl (by decide) h (fun I L h => ?_)))
        have hmany := q_BA_many (S := uW S W3) m8 hb
        have nx : ∀ I L, Cl I (uW S W3) → XL Ln xs 265 [(0, .ref 1000020), (1, .ref 0), (2, .ref 49), (3, .int (nI (sA S).1)), (4, .int (nI k)), (5, .int x)] [] I L Q := by
          intro I L h
          refine bL_law_265 (l_part 3 rfl (by decide) (by decide) (fun r _ => bL_law_274 (fun _ => nxt I L (uW S W3) ⟨rfl, rfl, rfl, rfl, rfl, rfl⟩ (by show (sL S).1 ≤ k + 1; omega) h) (fun _ => bL_law_277 (k_untrace (S := uW S W3) h (fun I L h => bL_law_281 (fun _ => nxt I L (uW (uW S W3) (0, W3.2)) ⟨rfl, rfl, rfl, rfl, rfl, rfl⟩ (by show (sL S).1 ≤ k + 1; omega) h) (fun q => absurd ?_ q))))))
          show (1 : Int32) ≤ nI W3.1
          exact (i_le 1 W3.1 rfl rfl (by decide) (by omega)).mpr c3
        have e5 : oCt (uW S W3) 5 = nI W3.1 := rfl
        rw [e5]
        have es : nI W3.1 - (1 : Int32) = nI (W3.1 - 1) := i_sub (a := W3.1) (b := 1) (by omega)
        rcases hmany with e | ⟨T, e, a1, a2, a3⟩
        · rw [e]
          refine bL_law_246 (fun q => ?_) (fun _ => bL_law_251 (fun _ => nx I L h) (fun q => absurd q (by decide)))
          rw [es] at q
          exact absurd (Int32.lt_trans q (by decide)) (nI_nneg (v := W3.1 - 1) (by omega))
        · have a1 : 0 < W3.1 := a1
          have a2 : T + 1 ≤ W3.1 := a2
          have a3 : T = 0 → W3.1 = 1 := a3
          rw [e]
          refine bL_law_246 (fun q => ?_) (fun _ => bL_law_251 (fun _ => nx I L h) (fun q => bL_law_256 (k_count (S := uW S W3) 5 rfl (by decide) h (fun I L h => bL_law_261 (fun q2 => ?_) (fun _ => nx I L h)))))
          · rw [es] at q
            have := (i_lt (W3.1 - 1) T rfl rfl (by omega) (by omega)).mp q; omega
          · have t0 := (i_eq T 0 rfl rfl (by omega) (by decide)).mp q
            have := (i_lt 1 W3.1 rfl rfl (by decide) (by omega)).mp q2
            have := a3 t0
            omega
    · refine l_part 3 rfl (by decide) (by decide) (fun a ha => bL_law_157 (l_part 8 rfl (by decide) (by decide) (fun b hb => bL_law_167 (k_push a b rfl rfl (by omega) (by omega) h (fun I L h => bL_law_170 (fun q => ?_) (fun _ => bL_law_175 ?_))))))
      · exact absurd q (q_pu_ge hF8)
      · generalize (q_pu S.1 (sF S) a b).2 = F' at h
        refine k_count (S := uF S F') 4 rfl (by decide) h (fun I L h => bL_law_180 (fun _ => bL_law_187 ?_) (fun q => absurd ?_ q))
        · refine l_goes (S := uF S F') w rfl hw (by show (sL S).1 + 1 < 1000000; omega) hG h (fun I L z ez h => bL_law_194 (fun _ => ?_) (fun q => absurd q (by decide)))
          have ez : z.1 = (sL S).1 + 1 := ez
          exact nxt I L (uL (uF S F') z) ⟨rfl, rfl, rfl, rfl, rfl, rfl⟩ (by show z.1 ≤ k + 1; omega) h
        · have f8 : F'.length ≤ 8 := h.2.2.2.1.1
          show nI F'.length ≤ 8
          exact (i_le F'.length 8 rfl rfl (by omega) (by decide)).mpr f8
/-! ===== the beginning ===== -/
theorem law_body {S : q_S} {Ln : Nat} {xs : Nat → Int32} {I : Nat → Nat → Int32} {L : Nat → Int64} {Q : Option Value → (Nat → Nat → Int32) → (Nat → Int64) → Prop} (hL : Ln ≤ 260) (h0 : S.1 = q_s0) (ha : (sA S).1 = 0) (hs : (sL S).1 = 0) (h : Cl I S) (K : ∀ I' L', Q (some (.int 1)) I' L') : XL Ln xs 13 [(0, .ref 1000020), (1, .ref 0), (2, .ref 49)] [] I L Q := by
  refine bL_law_13 (k_undoNot ha h (fun I L h => bL_law_17 (fun q => absurd rfl q) (fun _ => bL_law_22 (k_way0 (by decide) hs h (fun I L h => bL_law_27 (fun q => absurd rfl q) (fun _ => bL_law_31 ?_))))))
  refine l_faults h (fun I L h => bL_law_35 (fun q => absurd q (by decide)) (fun _ => bL_law_38 (l_refused h (fun I L h => bL_law_42 (fun q => absurd q (by decide)) (fun _ => bL_law_45 ?_)))))
  refine l_most (S := S) (t := []) h0 h (fun I L S1 h => bL_law_49 (fun q => absurd q (by decide)) (fun _ => bL_law_52 (l_nets hL h (fun I L S2 hnew h => bL_law_59 (fun _ => bL_law_64 ?_) (fun q => absurd q (by decide))))))
  obtain ⟨n1, n2, n3, n4, n5, n6, n7⟩ := hnew
  have e : (0 : Int32) = nI (sA S2).1 := by rw [n5]; rfl
  have := law_do (xs := xs) hL K 14 0 I L S2 rfl n1 n7 (by rw [n6]; exact Nat.le_refl 0) h
  rw [← e] at this
  exact this
