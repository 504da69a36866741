/-! ===== what the class answers, of its state; calls ===== -/
def oCt (S : q_S) (c : Nat) : Int32 := match c with
  | 0 => nI S.1.1
  | 1 => nI S.1.2.1
  | 2 => nI (g_pc 32 S.1.2.2.2.2.2.2.1)
  | 3 => nI (g_pc 32 (g_bh S.1.1 S.1.2.2.2.2.2.2.1 S.1.2.2.2.2.2.2.2))
  | 4 => nI (sF S).length
  | 5 => nI (sW S).1
  | 6 => i_b (sP S)
  | 7 => nI (sL S).1
  | 8 => (sL S).2.1
  | 9 => (sL S).2.2.1
  | 10 => (sL S).2.2.2.1
  | 11 => nI (sA S).1
  | 12 => nI (sT S).length
  | _ => i_b (sL S).2.2.2.2.2.2
theorem k_count {S : q_S} {I : Nat → Nat → Int32} {L : Nat → Int64} {Q : Option Value → (Nat → Nat → Int32) → (Nat → Int64) → Prop} {x : Int32} (c : Nat) (hx : x = nI c) (hc : c < 14) (h : Cl I S) (K : ∀ (I' : Nat → Nat → Int32) (L' : Nat → Int64), Cl I' (S) → Q (some (.int (oCt S c))) I' L') : XS mX9_count 0 [(0, .ref 0), (1, .int x)] [] I L Q := by
  subst hx
  replace K := K I L h
  obtain ⟨⟨n, ln, lo, hi, c0, c1, U, seen⟩, F, w, pr, a, ⟨s, th, md, lt, X, P, mm⟩, t, G⟩ := S
  obtain ⟨h1, h2, h3, h4, h5, h6, ⟨ah, -, -, a1, -⟩, ⟨-, -, -, l1, l2, l3, l4, l5, -⟩, -⟩ := h
  obtain ⟨hN, hc0, hc1, -, -, hU, hS⟩ := g_okS_eN h1
  obtain ⟨g1, g2, g3, g4, g5⟩ := h2
  have hn8 : n ≤ 8 := hN.2.1
  rcases (show c = 0 ∨ c = 1 ∨ c = 2 ∨ c = 3 ∨ c = 4 ∨ c = 5 ∨ c = 6 ∨ c = 7 ∨ c = 8 ∨ c = 9 ∨ c = 10 ∨ c = 11 ∨ c = 12 ∨ c = 13 by omega) with rfl | rfl | rfl | rfl | rfl | rfl | rfl | rfl | rfl | rfl | rfl | rfl | rfl | rfl
  · refine bX9_count_0 (fun z => absurd z (by decide)) (fun _ => bX9_count_68 ?_) (fun z => absurd z (by decide)) (fun z => absurd z (by decide)) (fun z => absurd z (by decide)) (fun z => absurd z (by decide)) (fun z => absurd z (by decide)) (fun z => absurd z (by decide)) (fun z => absurd z (by decide)) (fun z => absurd z (by decide)) (fun z => absurd z (by decide)) (fun z => absurd z (by decide)) (fun z => absurd z (by decide)) (fun z => absurd z (by decide))
    rw [show I 64 0 = _ from g1.1]; exact K
  · refine bX9_count_0 (fun z => absurd z (by decide)) (fun z => absurd z (by decide)) (fun _ => bX9_count_76 ?_) (fun z => absurd z (by decide)) (fun z => absurd z (by decide)) (fun z => absurd z (by decide)) (fun z => absurd z (by decide)) (fun z => absurd z (by decide)) (fun z => absurd z (by decide)) (fun z => absurd z (by decide)) (fun z => absurd z (by decide)) (fun z => absurd z (by decide)) (fun z => absurd z (by decide)) (fun z => absurd z (by decide))
    rw [show I 65 0 = _ from g1.2.1]; exact K
  · refine bX9_count_0 (fun z => absurd z (by decide)) (fun z => absurd z (by decide)) (fun z => absurd z (by decide)) (fun _ => bX9_count_84 ?_) (fun z => absurd z (by decide)) (fun z => absurd z (by decide)) (fun z => absurd z (by decide)) (fun z => absurd z (by decide)) (fun z => absurd z (by decide)) (fun z => absurd z (by decide)) (fun z => absurd z (by decide)) (fun z => absurd z (by decide)) (fun z => absurd z (by decide)) (fun z => absurd z (by decide))
    rw [show I 66 0 = _ from g4]
    exact c_bitCount (by omega) (bX9_count_94 K)
  · refine bX9_count_0 (fun z => absurd z (by decide)) (fun z => absurd z (by decide)) (fun z => absurd z (by decide)) (fun z => absurd z (by decide)) (fun _ => bX9_count_95 (c_behind g1.1 hn8 g4 hU (fun u hu => ⟨g5 u hu, hS u hu⟩) (bX9_count_102 (c_bitCount (by have := (g_bh_lt (n := n) (U := U) (seen := seen) hn8).2; omega) (bX9_count_105 K))))) (fun z => absurd z (by decide)) (fun z => absurd z (by decide)) (fun z => absurd z (by decide)) (fun z => absurd z (by decide)) (fun z => absurd z (by decide)) (fun z => absurd z (by decide)) (fun z => absurd z (by decide)) (fun z => absurd z (by decide)) (fun z => absurd z (by decide))
  · refine bX9_count_0 (fun z => absurd z (by decide)) (fun z => absurd z (by decide)) (fun z => absurd z (by decide)) (fun z => absurd z (by decide)) (fun z => absurd z (by decide)) (fun _ => bX9_count_106 ?_) (fun z => absurd z (by decide)) (fun z => absurd z (by decide)) (fun z => absurd z (by decide)) (fun z => absurd z (by decide)) (fun z => absurd z (by decide)) (fun z => absurd z (by decide)) (fun z => absurd z (by decide)) (fun z => absurd z (by decide))
    rw [show I 1666 0 = _ from h4.2.2.1]; exact K
  · refine bX9_count_0 (fun z => absurd z (by decide)) (fun z => absurd z (by decide)) (fun z => absurd z (by decide)) (fun z => absurd z (by decide)) (fun z => absurd z (by decide)) (fun z => absurd z (by decide)) (fun _ => bX9_count_114 ?_) (fun z => absurd z (by decide)) (fun z => absurd z (by decide)) (fun z => absurd z (by decide)) (fun z => absurd z (by decide)) (fun z => absurd z (by decide)) (fun z => absurd z (by decide)) (fun z => absurd z (by decide))
    rw [show I 1857 0 = _ from h5.2.1]; exact K
  · refine bX9_count_0 (fun z => absurd z (by decide)) (fun z => absurd z (by decide)) (fun z => absurd z (by decide)) (fun z => absurd z (by decide)) (fun z => absurd z (by decide)) (fun z => absurd z (by decide)) (fun z => absurd z (by decide)) (fun _ => bX9_count_138 (bX1_tally_0 (fun z => absurd z (by decide)) (fun _ => bX1_tally_48 (bX9_count_146 ?_)) (fun z => absurd z (by decide)) (fun z => absurd z (by decide)) (fun z => absurd z (by decide)) (fun z => absurd z (by decide)) (fun z => absurd z (by decide)) (fun z => absurd z (by decide)) (fun z => absurd z (by decide)))) (fun z => absurd z (by decide)) (fun z => absurd z (by decide)) (fun z => absurd z (by decide)) (fun z => absurd z (by decide)) (fun z => absurd z (by decide)) (fun z => absurd z (by decide))
    rw [show I 2757 0 = _ from h6]; exact K
  · refine bX9_count_0 (fun z => absurd z (by decide)) (fun z => absurd z (by decide)) (fun z => absurd z (by decide)) (fun z => absurd z (by decide)) (fun z => absurd z (by decide)) (fun z => absurd z (by decide)) (fun z => absurd z (by decide)) (fun z => absurd z (by decide)) (fun _ => bX9_count_138 (bX1_tally_0 (fun z => absurd z (by decide)) (fun z => absurd z (by decide)) (fun _ => bX1_tally_53 (bX9_count_146 ?_)) (fun z => absurd z (by decide)) (fun z => absurd z (by decide)) (fun z => absurd z (by decide)) (fun z => absurd z (by decide)) (fun z => absurd z (by decide)) (fun z => absurd z (by decide)))) (fun z => absurd z (by decide)) (fun z => absurd z (by decide)) (fun z => absurd z (by decide)) (fun z => absurd z (by decide)) (fun z => absurd z (by decide))
    rw [show I 2758 0 = _ from l1]; exact K
  · refine bX9_count_0 (fun z => absurd z (by decide)) (fun z => absurd z (by decide)) (fun z => absurd z (by decide)) (fun z => absurd z (by decide)) (fun z => absurd z (by decide)) (fun z => absurd z (by decide)) (fun z => absurd z (by decide)) (fun z => absurd z (by decide)) (fun z => absurd z (by decide)) (fun _ => bX9_count_138 (bX1_tally_0 (fun z => absurd z (by decide)) (fun z => absurd z (by decide)) (fun z => absurd z (by decide)) (fun _ => bX1_tally_58 (bX9_count_146 ?_)) (fun z => absurd z (by decide)) (fun z => absurd z (by decide)) (fun z => absurd z (by decide)) (fun z => absurd z (by decide)) (fun z => absurd z (by decide)))) (fun z => absurd z (by decide)) (fun z => absurd z (by decide)) (fun z => absurd z (by decide)) (fun z => absurd z (by decide))
    rw [show I 2759 0 = _ from l2]; exact K
  · refine bX9_count_0 (fun z => absurd z (by decide)) (fun z => absurd z (by decide)) (fun z => absurd z (by decide)) (fun z => absurd z (by decide)) (fun z => absurd z (by decide)) (fun z => absurd z (by decide)) (fun z => absurd z (by decide)) (fun z => absurd z (by decide)) (fun z => absurd z (by decide)) (fun z => absurd z (by decide)) (fun _ => bX9_count_138 (bX1_tally_0 (fun z => absurd z (by decide)) (fun z => absurd z (by decide)) (fun z => absurd z (by decide)) (fun z => absurd z (by decide)) (fun _ => bX1_tally_63 (bX9_count_146 ?_)) (fun z => absurd z (by decide)) (fun z => absurd z (by decide)) (fun z => absurd z (by decide)) (fun z => absurd z (by decide)))) (fun z => absurd z (by decide)) (fun z => absurd z (by decide)) (fun z => absurd z (by decide))
    rw [show I 2760 0 = _ from l3]; exact K
  · refine bX9_count_0 (fun z => absurd z (by decide)) (fun z => absurd z (by decide)) (fun z => absurd z (by decide)) (fun z => absurd z (by decide)) (fun z => absurd z (by decide)) (fun z => absurd z (by decide)) (fun z => absurd z (by decide)) (fun z => absurd z (by decide)) (fun z => absurd z (by decide)) (fun z => absurd z (by decide)) (fun z => absurd z (by decide)) (fun _ => bX9_count_138 (bX1_tally_0 (fun z => absurd z (by decide)) (fun z => absurd z (by decide)) (fun z => absurd z (by decide)) (fun z => absurd z (by decide)) (fun z => absurd z (by decide)) (fun _ => bX1_tally_68 (bX9_count_146 ?_)) (fun z => absurd z (by decide)) (fun z => absurd z (by decide)) (fun z => absurd z (by decide)))) (fun z => absurd z (by decide)) (fun z => absurd z (by decide))
    rw [show I 2761 0 = _ from l4]; exact K
  · refine bX9_count_0 (fun z => absurd z (by decide)) (fun z => absurd z (by decide)) (fun z => absurd z (by decide)) (fun z => absurd z (by decide)) (fun z => absurd z (by decide)) (fun z => absurd z (by decide)) (fun z => absurd z (by decide)) (fun z => absurd z (by decide)) (fun z => absurd z (by decide)) (fun z => absurd z (by decide)) (fun z => absurd z (by decide)) (fun z => absurd z (by decide)) (fun _ => bX9_count_122 ?_) (fun z => absurd z (by decide))
    rw [show I 710 0 = _ from a1]; exact K
  · refine bX9_count_0 (fun z => absurd z (by decide)) (fun z => absurd z (by decide)) (fun z => absurd z (by decide)) (fun z => absurd z (by decide)) (fun z => absurd z (by decide)) (fun z => absurd z (by decide)) (fun z => absurd z (by decide)) (fun z => absurd z (by decide)) (fun z => absurd z (by decide)) (fun z => absurd z (by decide)) (fun z => absurd z (by decide)) (fun z => absurd z (by decide)) (fun z => absurd z (by decide)) (fun _ => bX9_count_130 ?_)
    rw [show I 514 0 = _ from h3.1]; exact K
  · refine bX9_count_0 (fun _ => bX9_count_138 (bX1_tally_0 (fun z => absurd z (by decide)) (fun z => absurd z (by decide)) (fun z => absurd z (by decide)) (fun z => absurd z (by decide)) (fun z => absurd z (by decide)) (fun z => absurd z (by decide)) (fun z => absurd z (by decide)) (fun z => absurd z (by decide)) (fun _ => bX1_tally_73 (fun z => bX1_tally_84 (bX1_tally_85 (bX9_count_146 ?_))) (fun z => bX1_tally_80 (bX1_tally_85 (bX9_count_146 ?_)))))) (fun z => absurd z (by decide)) (fun z => absurd z (by decide)) (fun z => absurd z (by decide)) (fun z => absurd z (by decide)) (fun z => absurd z (by decide)) (fun z => absurd z (by decide)) (fun z => absurd z (by decide)) (fun z => absurd z (by decide)) (fun z => absurd z (by decide)) (fun z => absurd z (by decide)) (fun z => absurd z (by decide)) (fun z => absurd z (by decide)) (fun z => absurd z (by decide))
    · rw [show I 2762 0 = _ from l5, i_b0] at z; rw [z] at K; exact K
    · rw [show I 2762 0 = _ from l5, i_b0] at z; rw [show mm = true by simpa using z] at K; exact K
theorem k_countBad {S : q_S} {I : Nat → Nat → Int32} {L : Nat → Int64} {Q : Option Value → (Nat → Nat → Int32) → (Nat → Int64) → Prop} (h : Cl I S) (K : ∀ (I' : Nat → Nat → Int32) (L' : Nat → Int64), Cl I' (S) → Q (some (.int (-3))) I' L') : XS mX9_count 0 [(0, .ref 0), (1, .int (14 : Int32))] [] I L Q := by
  refine bX9_count_0 (fun _ => bX9_count_138 (bX1_tally_0 (fun _ => bX1_tally_86 (bX9_count_146 (K I L h))) (fun z => absurd z (by decide)) (fun z => absurd z (by decide)) (fun z => absurd z (by decide)) (fun z => absurd z (by decide)) (fun z => absurd z (by decide)) (fun z => absurd z (by decide)) (fun z => absurd z (by decide)) (fun z => absurd z (by decide)))) (fun z => absurd z (by decide)) (fun z => absurd z (by decide)) (fun z => absurd z (by decide)) (fun z => absurd z (by decide)) (fun z => absurd z (by decide)) (fun z => absurd z (by decide)) (fun z => absurd z (by decide)) (fun z => absurd z (by decide)) (fun z => absurd z (by decide)) (fun z => absurd z (by decide)) (fun z => absurd z (by decide)) (fun z => absurd z (by decide)) (fun z => absurd z (by decide))
def oLk (S : q_S) (l w : Nat) : Int32 := match w with
  | 0 => nI (S.1.2.2.1 l)
  | 1 => nI (S.1.2.2.2.1 l)
  | 2 => nI (S.1.2.2.2.2.1 l)
  | 3 => nI (S.1.2.2.2.2.2.1 l)
  | 4 => i_b (S.1.2.2.2.2.2.2.1.testBit l)
  | _ => nI ((sL S).2.2.2.2.1 l)
theorem k_linkBad {S : q_S} {I : Nat → Nat → Int32} {L : Nat → Int64} {Q : Option Value → (Nat → Nat → Int32) → (Nat → Int64) → Prop} {x y : Int32} (hx : g_is S.1.2.1 x = false) (h : Cl I S) (K : ∀ (I' : Nat → Nat → Int32) (L' : Nat → Int64), Cl I' (S) → Q (some (.int (-2))) I' L') : XS mX9_link 0 [(0, .ref 0), (1, .int x), (2, .int y)] [] I L Q := by
  obtain ⟨n, ln, lo, hi, c0, c1, U, seen, e, hN, g1, g2, g3, g4, g5⟩ := h.opn
  rw [e] at hx
  refine bX9_link_0 (c_hasLink g1 ?_)
  rw [show g_is ln x = false from hx]
  exact bX9_link_8 (fun q => absurd rfl q) (fun _ => bX9_link_11 (K I L h))
theorem k_link {S : q_S} {I : Nat → Nat → Int32} {L : Nat → Int64} {Q : Option Value → (Nat → Nat → Int32) → (Nat → Int64) → Prop} {x y : Int32} (l w : Nat) (hx : x = nI l) (hy : y = nI w) (hl : l < S.1.2.1) (hw : w < 6) (h : Cl I S) (K : ∀ (I' : Nat → Nat → Int32) (L' : Nat → Int64), Cl I' (S) → Q (some (.int (oLk S l w))) I' L') : XS mX9_link 0 [(0, .ref 0), (1, .int x), (2, .int y)] [] I L Q := by
  subst hx; subst hy
  replace K := K I L h
  obtain ⟨⟨n, ln, lo, hi, c0, c1, U, seen⟩, F, ww, pr, a, ⟨s, th, md, lt, X, P, mm⟩, t, G⟩ := S
  obtain ⟨h1, h2, h3, h4, h5, h6, -, ⟨-, -, -, l1, l2, l3, l4, l5, hcr, -⟩, -⟩ := h
  obtain ⟨hN, hc0, hc1, -, -, hU, hS⟩ := g_okS_eN h1
  obtain ⟨g1, g2, g3, g4, g5⟩ := h2
  have hln : ln ≤ 14 := hN.2.2.1
  have hl' : l < ln := hl
  have hv : vp_in (nI l) 14 := vp_in_nI (by omega) (by decide)
  have e0 := g1.2.2 l hl'
  refine bX9_link_0 (c_hasLink g1 ?_)
  rw [(g_is_iff (n := ln) (by omega)).mpr ⟨l, hl', rfl⟩]
  refine bX9_link_8 (fun _ => ?_) (fun q => absurd q (by decide))
  rcases (show w = 0 ∨ w = 1 ∨ w = 2 ∨ w = 3 ∨ w = 4 ∨ w = 5 by omega) with rfl | rfl | rfl | rfl | rfl | rfl
  · refine bX9_link_14 (fun z => absurd z (by decide)) (fun _ => bX9_link_52 hv ?_) (fun z => absurd z (by decide)) (fun z => absurd z (by decide)) (fun z => absurd z (by decide)) (fun z => absurd z (by decide)) (fun z => absurd z (by decide))
    rw [nI_clamp (by omega), show I 128 l = nI (lo l) from e0.1]; exact K
  · refine bX9_link_14 (fun z => absurd z (by decide)) (fun z => absurd z (by decide)) (fun _ => bX9_link_62 hv ?_) (fun z => absurd z (by decide)) (fun z => absurd z (by decide)) (fun z => absurd z (by decide)) (fun z => absurd z (by decide))
    rw [nI_clamp (by omega), show I 192 l = nI (hi l) from e0.2]; exact K
  · refine bX9_link_14 (fun z => absurd z (by decide)) (fun z => absurd z (by decide)) (fun z => absurd z (by decide)) (fun _ => bX9_link_72 hv ?_) (fun z => absurd z (by decide)) (fun z => absurd z (by decide)) (fun z => absurd z (by decide))
    rw [nI_clamp (by omega), show I 256 l = nI (c0 l) from g2 l hl']; exact K
  · refine bX9_link_14 (fun z => absurd z (by decide)) (fun z => absurd z (by decide)) (fun z => absurd z (by decide)) (fun z => absurd z (by decide)) (fun _ => bX9_link_82 hv ?_) (fun z => absurd z (by decide)) (fun z => absurd z (by decide))
    rw [nI_clamp (by omega), show I 320 l = nI (c1 l) from g3 l hl']; exact K
  · refine bX9_link_14 (fun z => absurd z (by decide)) (fun z => absurd z (by decide)) (fun z => absurd z (by decide)) (fun z => absurd z (by decide)) (fun z => absurd z (by decide)) (fun _ => bX9_link_92 (c_isUp g4 hU (by omega) ?_)) (fun z => absurd z (by decide))
    have K' : Q (some (.int (i_b (U.testBit l)))) I L := K
    cases hb : U.testBit l with
    | true => rw [hb] at K'; exact bX9_link_100 (fun z => absurd z (by decide)) (fun _ => bX9_link_103 (bX9_link_108 K'))
    | false => rw [hb] at K'; exact bX9_link_100 (fun _ => bX9_link_107 (bX9_link_108 K')) (fun z => absurd rfl z)
  · refine bX9_link_14 (fun z => absurd z (by decide)) (fun z => absurd z (by decide)) (fun z => absurd z (by decide)) (fun z => absurd z (by decide)) (fun z => absurd z (by decide)) (fun z => absurd z (by decide)) (fun _ => bX9_link_109 hv ?_)
    rw [nI_clamp (by omega), show I 384 l = nI (X l) from hcr l (by omega)]; exact K
theorem k_seenBad {S : q_S} {I : Nat → Nat → Int32} {L : Nat → Int64} {Q : Option Value → (Nat → Nat → Int32) → (Nat → Int64) → Prop} {x : Int32} (hx : g_is S.1.1 x = false) (h : Cl I S) (K : ∀ (I' : Nat → Nat → Int32) (L' : Nat → Int64), Cl I' (S) → Q (some (.int (-2))) I' L') : XS mX9_seen 0 [(0, .ref 0), (1, .int x)] [] I L Q := by
  obtain ⟨n, ln, lo, hi, c0, c1, U, seen, e, hN, g1, g2, g3, g4, g5⟩ := h.opn
  rw [e] at hx
  refine bX9_seen_0 (c_hasNode g1 ?_)
  rw [show g_is n x = false from hx]
  exact bX9_seen_8 (fun _ => bX9_seen_23 (bX9_seen_25 (K I L h))) (fun q => absurd rfl q)
theorem k_seen {S : q_S} {I : Nat → Nat → Int32} {L : Nat → Int64} {Q : Option Value → (Nat → Nat → Int32) → (Nat → Int64) → Prop} {x : Int32} (u : Nat) (hx : x = nI u) (hu : u < S.1.1) (h : Cl I S) (K : ∀ (I' : Nat → Nat → Int32) (L' : Nat → Int64), Cl I' (S) → Q (some (.int (nI (S.1.2.2.2.2.2.2.2 u)))) I' L') : XS mX9_seen 0 [(0, .ref 0), (1, .int x)] [] I L Q := by
  subst hx
  obtain ⟨n, ln, lo, hi, c0, c1, U, seen, e, hN, g1, g2, g3, g4, g5⟩ := h.opn
  have hn8 := hN.1.2.1
  rw [e] at hu
  have hu' : u < n := hu
  refine bX9_seen_0 (c_hasNode g1 ?_)
  rw [(g_is_iff (n := n) (by omega)).mpr ⟨u, hu', rfl⟩]
  refine bX9_seen_8 (fun q => absurd q (by decide)) (fun _ => bX9_seen_11 (vp_in_nI (by omega) (by decide)) (bX9_seen_25 ?_))
  rw [nI_clamp (by omega), show I 448 u = nI (seen u) from g5 u hu']
  have := K I L h
  rw [e] at this
  exact this
/-! ===== the text ===== -/
theorem uT_len {S : q_S} {t : List Nat} {I : Nat → Nat → Int32} (h : Cl I (uT S t)) : I 514 0 = nI t.length ∧ t.length ≤ 200 := ⟨h.2.2.1.1, h.2.2.1.2.1⟩
theorem Cl.setT {S : q_S} {t t' : List Nat} {T : List Nat} {I I' : Nat → Nat → Int32} (h : Cl I (uT S t)) (hs : Sm T I I') (hT : ∀ r, r ∈ T → r ∈ [514, 576]) (ht : qTx I' t') : Cl I' (uT S t') := by
  have s : Sm [514, 576] I I' := hs.mono hT
  obtain ⟨h1, h2, h3, h4, h5, h6, h7, h8, h9⟩ := h
  exact ⟨h1, qNe_ag h2 (s.ag (by decide)), ht, h4.ag (s.ag (by decide)), h5.ag (s.ag (by decide)), h6.ag (s.ag (by decide)), h7.ag (s.ag (by decide)), h8.ag (s.ag (by decide)), (s 3136 (by decide)).trans h9⟩
theorem k_erase {S : q_S} {t : List Nat} {I : Nat → Nat → Int32} {L : Nat → Int64} {Q : Option Value → (Nat → Nat → Int32) → (Nat → Int64) → Prop} (h : Cl I (uT S t)) (K : ∀ (I' : Nat → Nat → Int32) (L' : Nat → Int64), Cl I' (uT S []) → Q (some (.int (nI t.length))) I' L') : XS mX9_erase 0 [(0, .ref 0)] [] I L Q := by
  refine bX9_erase_0 ?_
  rw [(uT_len h).1]
  refine K _ L (h.setT (T := [514]) (Sm.rf.up (by decide)) (by decide) ⟨?_, by simp, fun j hj => by simp at hj⟩)
  rw [x_up_at]; rfl
theorem k_write {S : q_S} {t : List Nat} {I : Nat → Nat → Int32} {L : Nat → Int64} {Q : Option Value → (Nat → Nat → Int32) → (Nat → Int64) → Prop} {x : Int32} (c : Nat) (hx : x = nI c) (hc : c < 256) (hl : t.length < 200) (h : Cl I (uT S t)) (K : ∀ (I' : Nat → Nat → Int32) (L' : Nat → Int64), Cl I' (uT S (t ++ [c])) → Q (some (.int (nI (t.length + 1)))) I' L') : XS mX9_write 0 [(0, .ref 0), (1, .int x)] [] I L Q := by
  subst hx
  have e1 := (uT_len h).1
  have h3 := h.2.2.1.2.2
  refine bX9_write_0 (fun q => absurd rfl (i_neg q (a := c) (by omega))) (fun _ => bX9_write_4 (fun _ => bX9_write_14 (fun _ => bX9_write_30 ?_) (fun q => ?_)) (fun q => ?_))
  · refine bX8_addLetter_0 (fun z => ?_) (fun _ => bX8_addLetter_10 (by rw [e1]; exact vp_in_nI hl (by decide)) ?_)
    · rw [e1] at z
      have := (i_le 200 t.length rfl rfl (by decide) (by omega)).mp z; omega
    · have e3 : (x_up I 576 t.length (nI c)) 514 0 + (1 : Int32) = nI (t.length + 1) := by rw [x_up_ne (by decide), e1, nI_1]
      rw [e1, nI_clamp (by omega), e3]
      have s1 : Sm [514, 576] I (x_up (x_up I 576 t.length (nI c)) 514 0 (nI (t.length + 1))) := (Sm.rf.up (by decide)).up (by decide)
      have a1 : (x_up (x_up I 576 t.length (nI c)) 514 0 (nI (t.length + 1))) 514 0 = nI (t.length + 1) := x_up_at
      have a2 : ∀ j, (x_up (x_up I 576 t.length (nI c)) 514 0 (nI (t.length + 1))) 576 j = if j = t.length then nI c else I 576 j := fun j => by
        rw [x_up_ne (by decide), x_up_app]
        simp
      generalize (x_up (x_up I 576 t.length (nI c)) 514 0 (nI (t.length + 1))) = I1 at s1 a1 a2 ⊢
      refine bX8_addLetter_30 (bX9_write_38 ?_)
      rw [a1]
      refine K I1 L (h.setT s1 (fun r hr => hr) ⟨?_, ?_, fun j hj => ?_⟩)
      · rw [List.length_append]; exact a1
      · rw [List.length_append]; show t.length + 1 ≤ 200; omega
      · rw [List.length_append] at hj
        have hj' : j < t.length + 1 := hj
        show I1 576 j = _ ∧ _
        rw [a2 j]
        dsimp only
        by_cases hjl : j = t.length
        · rw [if_pos hjl, hjl]
          have : (t ++ [c]).getD t.length 0 = c := by simp [List.getD]
          rw [this]; exact ⟨rfl, hc⟩
        · rw [if_neg hjl]
          have : (t ++ [c]).getD j 0 = t.getD j 0 := by
            simp only [List.getD]
            rw [List.getElem?_append_left (by omega)]
          rw [this]; exact h3 j (by show j < t.length; omega)
  · rw [e1] at q
    exact absurd ((i_lt t.length 200 rfl rfl (by omega) (by decide)).mpr hl) q
  · exact absurd ((i_le c 255 rfl rfl (by omega) (by decide)).mpr (by omega)) q
theorem k_writeBad {S : q_S} {I : Nat → Nat → Int32} {L : Nat → Int64} {Q : Option Value → (Nat → Nat → Int32) → (Nat → Int64) → Prop} {x : Int32} (hx : x < 0 ∨ ¬ x ≤ 255) (h : Cl I S) (K : ∀ (I' : Nat → Nat → Int32) (L' : Nat → Int64), Cl I' (S) → Q (some (.int (-3))) I' L') : XS mX9_write 0 [(0, .ref 0), (1, .int x)] [] I L Q := by
  refine bX9_write_0 (fun _ => bX9_write_11 (K I L h)) (fun q => bX9_write_4 (fun q2 => ?_) (fun _ => bX9_write_11 (K I L h)))
  rcases hx with z | z
  · exact absurd z q
  · exact absurd q2 z
abbrev qTf (t : List Nat) : Nat → Nat := fun j => t.getD j 0
def oFt (σ : g_St) (t : List Nat) : Option Nat × List g_Cl := g_ps (qTf t) t.length 24 σ.1 (g_El σ.2.1 σ.2.2.1 σ.2.2.2.1) 0
theorem k_fault {S : q_S} {t : List Nat} {I : Nat → Nat → Int32} {L : Nat → Int64} {Q : Option Value → (Nat → Nat → Int32) → (Nat → Int64) → Prop} (r : Option Nat) (hr : (oFt S.1 t).1 = r) (h : Cl I (uT S t)) (K : ∀ (I' : Nat → Nat → Int32) (L' : Nat → Int64), Cl I' (uT S t) → Q (some (.int (i_o r))) I' L') : XS mX9_fault 0 [(0, .ref 0)] [] I L Q := by
  have hT := h.2.2.1
  have hG : cG I S.1.1 S.1.2.1 S.1.2.2.1 S.1.2.2.2.1 := by obtain ⟨⟨n, ln, lo, hi, c0, c1, U, seen⟩, S2⟩ := S; exact h.2.1.1
  have hN : g_net S.1.1 S.1.2.1 S.1.2.2.1 S.1.2.2.2.1 := by obtain ⟨⟨n, ln, lo, hi, c0, c1, U, seen⟩, S2⟩ := S; exact h.1.1
  subst hr
  exact bX9_fault_0 (c_findFaultR hG hN hT (fun I1 L1 r hr s1 _ => bX9_fault_7 (by
    have := K I1 L1 (h.sm s1 (by decide))
    unfold oFt at this
    rw [hr] at this
    exact this)))
theorem k_tellBad {S : q_S} {t : List Nat} {I : Nat → Nat → Int32} {L : Nat → Int64} {Q : Option Value → (Nat → Nat → Int32) → (Nat → Int64) → Prop} (hr : (oFt S.1 t).1 ≠ none) (h : Cl I (uT S t)) (K : ∀ (I' : Nat → Nat → Int32) (L' : Nat → Int64), Cl I' (uT S t) → Q (some (.int (-4))) I' L') : XS mX9_tell 0 [(0, .ref 0)] [] I L Q := by
  refine c_tell h.2.1 h.1 h.2.2.1 (fun I1 L1 s1 _ => K I1 L1 (h.sm s1 (by decide))) (fun I1 L1 C s1 hps _ _ _ _ _ => absurd ?_ hr)
  unfold oFt
  rw [hps]
def q_L0 : q_Le := (0, 0, 0, 0, fun _ => 0, [], false)
theorem k_tell {S : q_S} {t : List Nat} {I : Nat → Nat → Int32} {L : Nat → Int64} {Q : Option Value → (Nat → Nat → Int32) → (Nat → Int64) → Prop} (C : List g_Cl) (hr : oFt S.1 t = (none, C)) (hC : g_an C = true) (h : Cl I (uT S t)) (K : ∀ (I' : Nat → Nat → Int32) (L' : Nat → Int64) (m : Nat) (W : Nat → Nat) (H : Nat → g_H), g_okS (C.foldl g_ap S.1) → Cl I' (C.foldl g_ap S.1, [], (0, W), false, (0, H), q_L0, [], sG S) → Q (some (.int (nI C.length))) I' L') : XS mX9_tell 0 [(0, .ref 0)] [] I L Q := by
  refine c_tell h.2.1 h.1 h.2.2.1 (fun I1 L1 s1 hne => ?_) (fun I1 L1 C' s1 hps hc hok' hg hz hcr => ?_)
  · unfold oFt at hr
    exact absurd (congrArg Prod.fst hr) hne
  · have e : C' = C := by
      unfold oFt at hr
      exact congrArg Prod.snd (hps.symm.trans hr)
    subst e
    rw [hC] at hg
    obtain ⟨c1, c2, c3⟩ := hg
    rw [if_pos rfl] at c1 c2 c3
    obtain ⟨hS1, hS2, hS3, hS4, hS5, hS6, hS7, hS8, hS9⟩ := h
    obtain ⟨ah, p1, p2, p3, p4, p5, p6⟩ := hS7
    refine K I1 L1 0 (fun _ => 0) (fun _ => g_ho (C'.foldl g_ap S.1)) hok' ⟨hok', hc, ⟨?_, Nat.zero_le _, fun j hj => absurd hj (Nat.not_lt_zero _)⟩, ⟨Nat.zero_le _, fun p hp => (by cases hp), c1, fun t ht => absurd ht (Nat.not_lt_zero _)⟩, ⟨Nat.zero_le _, c2, fun p hp => absurd hp (Nat.not_lt_zero _)⟩, c3, ⟨ah, Nat.zero_le _, p2, ?_, ?_, rfl, fun i hi => absurd hi (Nat.not_lt_zero _)⟩, ⟨by decide, Nat.zero_le _, fun l => Nat.zero_le _, ?_, ?_, ?_, ?_, ?_, fun l hl => hcr l hl, fun q => absurd q (Nat.lt_irrefl 0)⟩, ?_⟩
    · exact hz _ (by decide)
    · exact hz _ (by decide)
    · rw [s1 _ (by decide)]; exact p4
    · exact hz _ (by decide)
    · exact hz _ (by decide)
    · exact hz _ (by decide)
    · exact hz _ (by decide)
    · exact hz _ (by decide)
    · rw [s1 3136 (by decide)]; exact hS9
