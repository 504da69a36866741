/-! ===== a letter sent: where it goes, what it crosses ===== -/
theorem i_b_0 (x : Int32) : x + i_b false = x := by
  show x + 0 = x
  exact Int32.add_zero x
/-- from node to node over links that are up, each crossed -/
def q_pth (n ln : Nat) (lo hi : Nat → Nat) (U : Nat) (x : Nat → Nat) : List Nat → Prop
  | [] => True
  | [u] => u < n
  | v :: u :: P => v < n ∧ (∃ l, g_lk ln lo hi u v = some l ∧ U.testBit l = true ∧ 1 ≤ x l) ∧ q_pth n ln lo hi U x (u :: P)
theorem q_pth_mono {n ln U : Nat} {lo hi : Nat → Nat} {x x' : Nat → Nat} (hx : ∀ l, x l ≤ x' l) : ∀ {P : List Nat}, q_pth n ln lo hi U x P → q_pth n ln lo hi U x' P
  | [], h => h
  | [_], h => h
  | _ :: _ :: _, h => by
    obtain ⟨h1, ⟨l, h2, h3, h4⟩, h5⟩ := h
    exact ⟨h1, ⟨l, h2, h3, Nat.le_trans h4 (hx l)⟩, q_pth_mono hx h5⟩
theorem q_pth_head {n ln U : Nat} {lo hi : Nat → Nat} {x : Nat → Nat} {u : Nat} {P : List Nat} (h : q_pth n ln lo hi U x (u :: P)) : u < n := by
  cases P with
  | nil => exact h
  | cons v P => exact h.1
/-- what is so of every end of a letter -/
def q_LX (n ln : Nat) (lo hi : Nat → Nat) (U : Nat) (P0 : List Nat) (x0 : Nat → Nat) (R : Int32 × List Nat × (Nat → Int32) × Bool) (x' : Nat → Nat) : Prop :=
  R.2.2.1 = (fun j => nI (x' j)) ∧ (∀ l, x0 l ≤ x' l) ∧ (∀ l, x' l + P0.length ≤ x0 l + R.2.1.length) ∧ (∃ Pn, R.2.1 = Pn ++ P0) ∧ R.2.1.length ≤ 21 ∧ q_pth n ln lo hi U x' R.2.1 ∧
    ((∃ v, R.1 = nI v ∧ v < n ∧ R.2.1.head? = some v) ∨ R.1 = -11 ∨ R.1 = -12 ∨ R.1 = -13 ∨ (R.1 = -14 ∧ R.2.1.length = 21))
def q_LR (n ln : Nat) (lo hi : Nat → Nat) (U : Nat) (P0 : List Nat) (x0 : Nat → Nat) (R : Int32 × List Nat × (Nat → Int32) × Bool) : Prop := ∃ x' : Nat → Nat, q_LX n ln lo hi U P0 x0 R x'
theorem g_lh_end {n ln u k w l : Nat} {lo hi c0 c1 seen : Nat → Nat} (hN : g_net n ln lo hi) (hk : k = 2 → w < ln) (h : g_lh n ln lo hi c0 c1 seen u k w = some l) : l < ln ∧ (lo l = u ∨ hi l = u) := by
  unfold g_lh at h
  split at h
  · rename_i hk2
    split at h
    · rename_i he
      cases h
      exact ⟨hk hk2, he⟩
    · cases h
  · unfold g_nl at h
    split at h
    · have := (g_lk_some hN).mp h
      exact ⟨this.1, by rcases this.2 with ⟨a, -⟩ | ⟨-, a⟩; exact Or.inl a; exact Or.inr a⟩
    · cases h
theorem g_lk_ot {n ln l u : Nat} {lo hi : Nat → Nat} (hN : g_net n ln lo hi) (hl : l < ln) (h : lo l = u ∨ hi l = u) : g_lk ln lo hi u (g_ot lo hi l u) = some l := by
  refine (g_lk_some hN).mpr ⟨hl, ?_⟩
  unfold g_ot
  by_cases e : lo l = u
  · rw [if_pos e]; exact Or.inl ⟨e, rfl⟩
  · rw [if_neg e]
    rcases h with z | z
    · exact absurd z e
    · exact Or.inr ⟨rfl, z⟩
theorem q_L_all {n ln U : Nat} {lo hi c0 c1 seen : Nat → Nat} {pr : Bool} (hN : g_net n ln lo hi) : ∀ k u (S : List (Nat × Nat)) (P : List Nat) (x : Nat → Nat) mm R, g_L n ln lo hi c0 c1 seen U pr k u S (u :: P) (fun j => nI (x j)) mm R → (∀ p, p ∈ S → g_sg n ln p) → q_pth n ln lo hi U x (u :: P) → (u :: P).length ≤ 21 → q_LR n ln lo hi U (u :: P) x R := by
  intro k
  induction k with
  | zero => intro u S P x mm R h; exact h.elim
  | succ k ih =>
    intro u S P x mm R h hsg hp h21
    have stay : ∀ (v : Int32) (b : Bool), ((∃ w, v = nI w ∧ w < n ∧ w = u) ∨ v = -11 ∨ v = -12 ∨ v = -13 ∨ (v = -14 ∧ (u :: P).length = 21)) → q_LR n ln lo hi U (u :: P) x (v, u :: P, (fun j => nI (x j)), b) := by
      intro v b hv
      refine ⟨x, rfl, fun l => Nat.le_refl _, fun l => Nat.le_refl _, ⟨[], rfl⟩, h21, hp, ?_⟩
      rcases hv with ⟨w, h1, h2, h3⟩ | hv
      · exact Or.inl ⟨w, h1, h2, by rw [h3]; rfl⟩
      · exact Or.inr hv
    unfold g_L at h
    cases hd : g_dw u S with
    | nil =>
      rw [hd] at h
      dsimp only at h
      rw [h]
      exact stay _ _ (Or.inl ⟨u, rfl, q_pth_head hp, rfl⟩)
    | cons p S1 =>
      obtain ⟨kk, w⟩ := p
      have hmem : ∀ q, q ∈ (kk, w) :: S1 → g_sg n ln q := fun q hq => hsg q (g_dw_mem (u := u) (by rw [hd]; exact hq))
      have hkw := hmem (kk, w) (List.mem_cons_self)
      have hS1 : ∀ q, q ∈ (if kk = 2 then S1 else (kk, w) :: S1) → g_sg n ln q := fun q hq => by
        split at hq
        · exact hmem q (List.mem_cons_of_mem _ hq)
        · exact hmem q hq
      rw [hd] at h
      dsimp only at h
      by_cases hP : (u :: P).length = 21
      · rw [if_pos hP] at h
        rw [h]
        exact stay _ _ (Or.inr (Or.inr (Or.inr (Or.inr ⟨rfl, hP⟩))))
      · rw [if_neg hP] at h
        cases hl : g_lh n ln lo hi c0 c1 seen u kk w with
        | none =>
          rw [hl] at h
          dsimp only at h
          rw [h]
          refine stay _ _ (Or.inr ?_)
          unfold g_er
          split
          · exact Or.inr (Or.inr (Or.inl rfl))
          · exact Or.inl rfl
        | some l =>
          obtain ⟨hl1, hl2⟩ := g_lh_end hN hkw.2.1 hl
          rw [hl] at h
          dsimp only at h
          by_cases hU : U.testBit l = true
          · rw [if_pos hU] at h
            have hf : (fun j => if j = l then (fun j => nI (x j)) j + 1 else (fun j => nI (x j)) j) = (fun j => nI ((fun j => if j = l then x j + 1 else x j) j)) := by
              funext j
              dsimp only
              by_cases hj : j = l
              · rw [if_pos hj, if_pos hj, nI_1]
              · rw [if_neg hj, if_neg hj]
            rw [hf] at h
            have hx1 : ∀ j, x j ≤ (fun j => if j = l then x j + 1 else x j) j := fun j => by
              dsimp only
              split <;> omega
            obtain ⟨x', r1, r2, r3, ⟨Pn, r4⟩, r5, r6, r7⟩ := ih _ _ _ _ _ _ h hS1 ⟨g_ot_lt hN hl1, ⟨l, g_lk_ot hN hl1 hl2, hU, by dsimp only; rw [if_pos rfl]; omega⟩, q_pth_mono hx1 hp⟩ (by rw [List.length_cons]; omega)
            refine ⟨x', r1, fun j => Nat.le_trans (hx1 j) (r2 j), fun j => ?_, ⟨Pn ++ [g_ot lo hi l u], by rw [r4]; simp⟩, r5, r6, r7⟩
            have := r3 j
            rw [List.length_cons] at this
            dsimp only at this
            split at this <;> omega
          · rw [if_neg hU] at h
            by_cases hpr : pr = false ∨ mm = true
            · rw [if_pos hpr] at h
              rw [h]
              exact stay _ _ (Or.inr (Or.inr (Or.inl rfl)))
            · rw [if_neg hpr] at h
              obtain ⟨o, h1, h2⟩ := h
              cases o with
              | none =>
                dsimp only at h2
                rw [h2]
                exact stay _ _ (Or.inr (Or.inr (Or.inl rfl)))
              | some F =>
                refine ih _ _ _ _ _ _ h2 (fun q hq => ?_) hp h21
                rw [List.mem_append] at hq
                rcases hq with hq | hq
                · exact h1.2.1 q hq
                · exact hS1 q hq
/-! ===== send ===== -/
def q_L0x (S : q_S) : Nat → Int32 := fun j => nI ((sL S).2.2.2.2.1 j)
def q_LL (S : q_S) (u : Nat) (R : Int32 × List Nat × (Nat → Int32) × Bool) : Prop := g_L S.1.1 S.1.2.1 S.1.2.2.1 S.1.2.2.2.1 S.1.2.2.2.2.1 S.1.2.2.2.2.2.1 S.1.2.2.2.2.2.2.2 S.1.2.2.2.2.2.2.1 (sP S) 22 u (sF S) [u] (q_L0x S) false R
theorem k_send {S : q_S} {I : Nat → Nat → Int32} {L : Nat → Int64} {Q : Option Value → (Nat → Nat → Int32) → (Nat → Int64) → Prop} {x : Int32} (u : Nat) (hx : x = nI u) (hu : u < S.1.1) (hs : (sL S).1 + 1 < 1000000) (h : Cl I S) (K : ∀ (I' : Nat → Nat → Int32) (L' : Nat → Int64) (R : Int32 × List Nat × (Nat → Int32) × Bool) (th md lt : Int32) (x' : Nat → Nat), q_LL S u R → q_LX S.1.1 S.1.2.1 S.1.2.2.1 S.1.2.2.2.1 S.1.2.2.2.2.2.2.1 [u] (sL S).2.2.2.2.1 R x' → Cl I' (uL S ((sL S).1 + 1, th, md, lt, x', R.2.1, R.2.2.2)) → Q (some (.int R.1)) I' L') : XS mX9_send 0 [(0, .ref 0), (1, .int x)] [] I L Q := by
  subst hx
  obtain ⟨⟨n, ln, lo, hi, c0, c1, U, seen⟩, F, w, pr, ⟨a, H⟩, ⟨s, th0, md0, lt0, X, P0, mm0⟩, t, G⟩ := S
  obtain ⟨h1, h2, h3, ⟨f1, f2, f3, f5⟩, h5, r1, h7, ⟨l0, l1, l2, l3, l4, l5, l6, l7, l8, l9⟩, h9⟩ := h
  have f1 : F.length ≤ 8 := f1
  have hLi : qLi I n ln F := ⟨f1, f2, f3, f5⟩
  have hPr : qPr I pr := r1
  obtain ⟨hN, hc0, hc1, -, -, hU, hS⟩ := g_okS_eN h1
  have hln := hN.2.2.1
  have hn8 := hN.2.1
  have hu : u < n := hu
  have hs : s + 1 < 1000000 := hs
  obtain ⟨g1, g2, g3, g4, g5⟩ := id h2
  refine bX9_send_0 (c_hasNode g1 ?_)
  rw [(g_is_iff (n := n) (by omega)).mpr ⟨u, hu, rfl⟩]
  have sA : Sm [2818] I (x_up I 2818 0 0) := Sm.rf.up (by decide)
  refine bX9_send_8 (fun _ => bX9_send_14 (bX1_start_0 (c_putOnTop (F := F) (S := []) k_list (by decide) (by decide) (by decide) (by rw [sA _ (by decide)]; exact f3) (fun t ht => by rw [sA 1728 (by decide), sA 1792 (by decide)]; exact f5 t ht) f1 ⟨x_up_at, trivial⟩ (by simp; omega) (fun I1 s1 hB1 => bX1_start_16 (c_rput' (m := 0) k_passed x_up_at (by decide) ?_))))) (fun q => absurd q (by decide))
  rw [List.append_nil] at hB1
  have t1 : Sm [3009, 3072] I1 (x_up (x_up (x_up I1 3009 0 0) 3072 0 (nI u)) 3009 0 (nI (0 + 1))) := ((Sm.rf.up (by decide)).up (by decide)).up (by decide)
  have t2 : (x_up (x_up (x_up I1 3009 0 0) 3072 0 (nI u)) 3009 0 (nI (0 + 1))) 3009 0 = nI 1 := x_up_at
  have t3 : (x_up (x_up (x_up I1 3009 0 0) 3072 0 (nI u)) 3009 0 (nI (0 + 1))) 3072 0 = nI u := by rw [x_up_ne (by decide), x_up_at]
  generalize (x_up (x_up (x_up I1 3009 0 0) 3072 0 (nI u)) 3009 0 (nI (0 + 1))) = J at t1 t2 t3 ⊢
  have sJ : Sm [2818, 2880, 2944, 3009, 3072] I J := ((sA.mono (by decide)).tr (s1.mono (by decide))).tr (t1.mono (by decide))
  have ks : (x_up J 2762 0 0) 2758 0 + (1 : Int32) = nI (s + 1) := by rw [x_up_ne (by decide), sJ 2758 (by decide), show I 2758 0 = nI s from l3, nI_1]
  refine bX1_start_32 (bX9_send_26 ?_)
  rw [ks]
  have v1 : Sm [2762, 2758] J (x_up (x_up J 2762 0 0) 2758 0 (nI (s + 1))) := (Sm.rf.up (by decide)).up (by decide)
  have v2 : (x_up (x_up J 2762 0 0) 2758 0 (nI (s + 1))) 2762 0 = 0 := by rw [x_up_ne (by decide), x_up_at]
  have v3 : (x_up (x_up J 2762 0 0) 2758 0 (nI (s + 1))) 2758 0 = nI (s + 1) := x_up_at
  generalize (x_up (x_up J 2762 0 0) 2758 0 (nI (s + 1))) = I2 at v1 v2 v3 ⊢
  have s2 : Sm [2818, 2880, 2944, 3009, 3072, 2762, 2758] I I2 := (sJ.mono (by decide)).tr (v1.mono (by decide))
  have hB2 : cB I2 F := (hB1.sm t1 (by decide) (by decide) (by decide)).sm v1 (by decide) (by decide) (by decide)
  have hL2 : cL I2 [u] (fun j => nI (X j)) false (I 2760 0) := by
    refine ⟨?_, ⟨?_, trivial⟩, fun l hl => ?_, v2, ?_⟩
    · rw [v1 _ (by decide)]; exact t2
    · rw [v1 _ (by decide)]; exact t3
    · rw [s2 _ (by decide)]; exact l8 l hl
    · rw [s2 _ (by decide), i_b_0]
  refine c_carry (X := fun j => nI (X j)) (M0 := I 2760 0) (g1.sm s2 (by decide) (by decide) (by decide) (by decide)) hN (fun j hj => by rw [s2 _ (by decide)]; exact g2 j hj) (fun j hj => by rw [s2 _ (by decide)]; exact g3 j hj) hc0 hc1 (by rw [s2 _ (by decide)]; exact g4) hU hu (fun w hw => ⟨by rw [s2 _ (by decide)]; exact g5 w hw, hS w hw⟩) (by rw [s2 _ (by decide)]; exact r1) hB2 f1 f2 hL2 (fun I3 R s3 hR hL3 hR21 => bX9_send_34 ?_)
  have hall := q_L_all hN _ _ _ _ _ _ _ hR f2 hu (by show 1 ≤ 21; omega)
  have sC : Sm [2818, 2880, 2944, 3009, 3072, 2762, 2758, 1088, 1152, 1216, 2049, 2112, 2176, 2240, 2304, 2368, 2432, 2496, 2562, 2624, 2688, 2760, 384] I I3 := (s2.mono (by decide)).tr (s3.mono (by decide))
  have sent3 : I3 2758 0 = nI (s + 1) := by rw [s3 _ (by decide)]; exact v3
  have fin : ∀ I4, Sm [2759, 2761] I3 I4 → XS mX9_send 43 [(2, .int R.1)] [] I4 L Q := by
    intro I4 s4
    have sD : Sm [2818, 2880, 2944, 3009, 3072, 2762, 2758, 1088, 1152, 1216, 2049, 2112, 2176, 2240, 2304, 2368, 2432, 2496, 2562, 2624, 2688, 2760, 384, 2759, 2761] I I4 := (sC.mono (by decide)).tr (s4.mono (by decide))
    obtain ⟨x', hxx⟩ := hall
    obtain ⟨w1, w2, w3, ⟨Pn, w4⟩, w5, w6, w7⟩ := id hxx
    obtain ⟨y1, y2, y3, y4, y5⟩ := hL3
    refine bX9_send_43 (K I4 L R (I4 2759 0) (I4 2760 0) (I4 2761 0) x' hR hxx ⟨h1, qNe_ag h2 (sD.ag (by decide)), h3.ag (sD.ag (by decide)), hLi.ag (sD.ag (by decide)), h5.ag (sD.ag (by decide)), hPr.ag (sD.ag (by decide)), h7.ag (sD.ag (by decide)), ⟨hs, hR21, fun l => ?_, ?_, rfl, rfl, rfl, ?_, fun l hl => ?_, fun _ => ⟨?_, ?_, ?_⟩⟩, (sD 3136 (by decide)).trans h9⟩)
    · show x' l ≤ 20 * (s + 1)
      have a1 : x' l + 1 ≤ X l + R.2.1.length := w3 l
      have a2 : X l ≤ 20 * s := l2 l
      omega
    · rw [s4 _ (by decide)]; exact sent3
    · rw [s4 _ (by decide)]; exact y4
    · rw [s4 _ (by decide), show I3 384 l = R.2.2.1 l from y3 l hl, w1]
    · rw [w4]; simp
    · rw [s4 _ (by decide)]; exact y1
    · exact g_rp_sm y2 (fun i _ => by rw [s4 _ (by decide)])
  exact bX1_noteEnd_0 (fun _ => bX1_noteEnd_17 (bX1_noteEnd_27 (fin _ (Sm.rf.up (by decide))))) (fun _ => bX1_noteEnd_4 (bX1_noteEnd_27 (fin _ (Sm.rf.up (by decide)))))
theorem k_sendBad {S : q_S} {I : Nat → Nat → Int32} {L : Nat → Int64} {Q : Option Value → (Nat → Nat → Int32) → (Nat → Int64) → Prop} {x : Int32} (hx : g_is S.1.1 x = false) (h : Cl I S) (K : ∀ (I' : Nat → Nat → Int32) (L' : Nat → Int64), Cl I' (S) → Q (some (.int (-2))) I' L') : XS mX9_send 0 [(0, .ref 0), (1, .int x)] [] I L Q := by
  obtain ⟨n, ln, lo, hi, c0, c1, U, seen, e, hN, g1, g2, g3, g4, g5⟩ := h.opn
  rw [e] at hx
  refine bX9_send_0 (c_hasNode g1 ?_)
  rw [show g_is n x = false from hx]
  exact bX9_send_8 (fun q => absurd rfl q) (fun _ => bX9_send_11 (K I L h))
theorem k_wayBad {S : q_S} {I : Nat → Nat → Int32} {L : Nat → Int64} {Q : Option Value → (Nat → Nat → Int32) → (Nat → Int64) → Prop} {x : Int32} (hx : x < -1) (h : Cl I S) (K : ∀ (I' : Nat → Nat → Int32) (L' : Nat → Int64), Cl I' (S) → Q (some (.int (-3))) I' L') : XS mX9_way 0 [(0, .ref 0), (1, .int x)] [] I L Q :=
  bX9_way_0 (fun q => absurd hx (i_ge_m1.mp q)) (fun _ => bX9_way_5 (K I L h))
theorem q_Le_at {S : q_S} {I : Nat → Nat → Int32} (h : Cl I S) : (sL S).1 < 1000000 ∧ I 2758 0 = nI (sL S).1 ∧ (sL S).2.2.2.2.2.1.length ≤ 21 ∧ (0 < (sL S).1 → 0 < (sL S).2.2.2.2.2.1.length ∧ I 3009 0 = nI (sL S).2.2.2.2.2.1.length ∧ g_rp 3072 I (sL S).2.2.2.2.2.1) := by
  obtain ⟨⟨n, ln, lo, hi, c0, c1, U, seen⟩, F, w, pr, ⟨a, H⟩, ⟨s, th0, md0, lt0, X, P0, mm0⟩, t, G⟩ := S
  obtain ⟨h1, h2, h3, h4, h5, r1, h7, ⟨l0, l1, l2, l3, l4, l5, l6, l7, l8, l9⟩, h9⟩ := h
  exact ⟨l0, l3, l1, l9⟩
theorem k_way0 {S : q_S} {I : Nat → Nat → Int32} {L : Nat → Int64} {Q : Option Value → (Nat → Nat → Int32) → (Nat → Int64) → Prop} {x : Int32} (hx : ¬ x < -1) (hs : (sL S).1 = 0) (h : Cl I S) (K : ∀ (I' : Nat → Nat → Int32) (L' : Nat → Int64), Cl I' (S) → Q (some (.int (-1))) I' L') : XS mX9_way 0 [(0, .ref 0), (1, .int x)] [] I L Q := by
  obtain ⟨e0, e1, -, -⟩ := q_Le_at h
  refine bX9_way_0 (fun _ => bX9_way_8 (fun q => ?_) (fun _ => bX9_way_18 (K I L h))) (fun q => absurd (i_ge_m1.mpr hx) q)
  rw [e1, hs] at q
  exact absurd rfl q
theorem k_wayHops {S : q_S} {I : Nat → Nat → Int32} {L : Nat → Int64} {Q : Option Value → (Nat → Nat → Int32) → (Nat → Int64) → Prop} (hs : 0 < (sL S).1) (h : Cl I S) (K : ∀ (I' : Nat → Nat → Int32) (L' : Nat → Int64), Cl I' (S) → Q (some (.int (nI ((sL S).2.2.2.2.2.1.length - 1)))) I' L') : XS mX9_way 0 [(0, .ref 0), (1, .int (-1 : Int32))] [] I L Q := by
  obtain ⟨e0, e1, e2, e3⟩ := q_Le_at h
  obtain ⟨e4, e5, -⟩ := e3 hs
  refine bX9_way_0 (fun _ => bX9_way_8 (fun _ => bX9_way_20 (fun q => absurd rfl q) (fun _ => bX9_way_25 (bX1_hops_0 (bX9_way_32 (bX9_way_46 ?_))))) (fun q => ?_)) (fun q => absurd (by decide) q)
  · rw [e5, show nI (sL S).2.2.2.2.2.1.length - (1 : Int32) = nI ((sL S).2.2.2.2.2.1.length - 1) from i_sub (a := (sL S).2.2.2.2.2.1.length) (b := 1) (by omega)]
    exact K I L h
  · rw [e1] at q
    have := (i_eq _ 0 rfl rfl (by omega) (by decide)).mp q
    omega
theorem g_rp_get {r : Nat} {I : Nat → Nat → Int32} : ∀ {P : List Nat}, g_rp r I P → ∀ i, i < P.length → I r i = nI (P.getD (P.length - 1 - i) 0) := by
  intro P
  induction P with
  | nil => intro _ i hi; exact absurd hi (Nat.not_lt_zero i)
  | cons u P ih =>
    intro h i hi
    rw [List.length_cons] at hi ⊢
    by_cases hx : i = P.length
    · subst hx
      rw [h.1, show P.length + 1 - 1 - P.length = 0 by omega]
      rfl
    · rw [ih h.2 i (by omega), show P.length + 1 - 1 - i = (P.length - 1 - i) + 1 by omega]
      rfl
theorem k_wayAt {S : q_S} {I : Nat → Nat → Int32} {L : Nat → Int64} {Q : Option Value → (Nat → Nat → Int32) → (Nat → Int64) → Prop} {x : Int32} (k : Nat) (hx : x = nI k) (hs : 0 < (sL S).1) (hk : k < (sL S).2.2.2.2.2.1.length) (h : Cl I S) (K : ∀ (I' : Nat → Nat → Int32) (L' : Nat → Int64), Cl I' (S) → Q (some (.int (nI ((sL S).2.2.2.2.2.1.getD ((sL S).2.2.2.2.2.1.length - 1 - k) 0)))) I' L') : XS mX9_way 0 [(0, .ref 0), (1, .int x)] [] I L Q := by
  subst hx
  obtain ⟨e0, e1, e2, e3⟩ := q_Le_at h
  obtain ⟨e4, e5, e6⟩ := e3 hs
  have hne : ¬ nI k = (-1 : Int32) := i_m1ne (by omega)
  refine bX9_way_0 (fun _ => bX9_way_8 (fun _ => bX9_way_20 (fun _ => bX9_way_35 (c_rtold k_passed e5 e2 (bX9_way_46 ?_))) (fun q => absurd q hne)) (fun q => ?_)) (fun q => absurd (i_ge_m1.mpr (fun z => ?_)) q)
  · unfold g_told
    rw [if_neg hne, if_pos ((g_is_iff (by omega)).mpr ⟨k, hk, rfl⟩), nI_clamp (by omega), g_rp_get e6 k hk]
    exact K I L h
  · rw [e1] at q
    have := (i_eq _ 0 rfl rfl (by omega) (by decide)).mp q
    omega
  · exact absurd rfl (i_neg (Int32.lt_trans z (by decide)) (a := k) (by omega))
