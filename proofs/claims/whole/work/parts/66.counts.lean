/-! ===== counts, and what a node comes to without a link ===== -/
theorem o_count {k : Nat} {x : Int32} {I : Nat → Nat → Int32} {L : Nat → Int64} (h : Rel k I) : Op k mX9_count mX10_count [(1, .int x)] I L := by
  have h' := h
  obtain ⟨n, ln, lo, hi, c0, c1, U, seen, ⟨hN, hc0, hc1, hU14, hS14, hU, hS⟩, ⟨g1, g2, g3, g4, g5⟩, m1, m2, m3, m4, m5⟩ := h.opn
  obtain ⟨σ, -, -, ⟨T, len, hT, hT'⟩, ⟨F, -, -, f3, f4, -⟩, ⟨m, W, -, t1, t2, -⟩, ⟨pr, p1, p2⟩, ⟨a, ah, H, -, -, a1, -, a2, -⟩, ⟨s, P, mm, -, -, l1, l2, l3, l4, l5, l6, l7, -⟩⟩ := h
  have hn8 := hN.2.1
  have eqs : I 64 0 = I 3136 0 ∧ I 65 0 = I 3137 0 ∧ I 1666 0 = I 3144 0 ∧ I 1857 0 = I 3147 0 ∧ I 710 0 = I 3143 0 ∧ I 514 0 = I 3159 0 ∧ I 2757 0 = I 3149 0 ∧ I 2758 0 = I 3171 0 := ⟨g1.1.trans m1.1.symm, g1.2.1.trans m1.2.1.symm, f3.trans f4.symm, t1.trans t2.symm, a1.trans a2.symm, hT.1.trans hT'.1.symm, p1.trans p2.symm, l1.trans l2.symm⟩
  obtain ⟨q1, q2, q3, q4, q5, q6, q7, q8⟩ := eqs
  have l3' : I 2759 0 = I 3172 0 := l3
  have l4' : I 2761 0 = I 3174 0 := l4
  have l5' : I 2760 0 = I 3173 0 := l5
  have l6' : I 2762 0 = i_b mm := l6
  have l7' : I 3175 0 = i_b mm := l7
  have hU' : I 66 0 = nI U := g4
  have hM' : I 3392 28 = nI U := m4
  have hB := g_bh_lt (n := n) (U := U) (seen := seen) hn8
  have pc1 : g_pc 32 U = g_pc 14 U := g_pc_ext 14 32 U hU14 (by omega)
  have pc2 : g_pc 32 (g_bh n U seen) = g_pc 8 (g_bh n U seen) := g_pc_ext 8 32 _ hB.2 (by omega)
  have hseenC : ∀ u, u < n → I 448 u = nI (seen u) ∧ seen u < 2 ^ 31 := fun u hu => ⟨g5 u hu, hS u hu⟩
  have hseenM : ∀ u, u < n → I 3392 (29 + u) = nI (seen u) ∧ seen u < 2 ^ 31 := fun u hu => ⟨m5 u hu, hS u hu⟩
  refine bX9_count_0 (fun q => ?_) (fun q => ?_) (fun q => ?_) (fun q => ?_) (fun q => ?_) (fun q => ?_) (fun q => ?_) (fun q => ?_) (fun q => ?_) (fun q => ?_) (fun q => ?_) (fun q => ?_) (fun q => ?_) (fun q => ?_)
  · by_cases h13 : x = 13
    · subst h13
      refine bX9_count_138 (bX1_tally_0 (fun z => absurd z (by decide)) (fun z => absurd z (by decide)) (fun z => absurd z (by decide)) (fun z => absurd z (by decide)) (fun z => absurd z (by decide)) (fun z => absurd z (by decide)) (fun z => absurd z (by decide)) (fun z => absurd z (by decide)) (fun _ => bX1_tally_73 (fun z => bX1_tally_84 (bX1_tally_85 (bX9_count_146 ⟨_, rfl, bX10_count_0 (fun z => absurd z (by decide)) (fun z => absurd z (by decide)) (fun z => absurd z (by decide)) (fun z => absurd z (by decide)) (fun z => absurd z (by decide)) (fun z => absurd z (by decide)) (fun z => absurd z (by decide)) (fun z => absurd z (by decide)) (fun z => absurd z (by decide)) (fun z => absurd z (by decide)) (fun z => absurd z (by decide)) (fun z => absurd z (by decide)) (fun z => absurd z (by decide)) (fun z => absurd z (by decide)) (fun _ => bX10_count_146 ⟨?_, h'.up⟩)⟩))) (fun z => bX1_tally_80 (bX1_tally_85 (bX9_count_146 ⟨_, rfl, bX10_count_0 (fun z => absurd z (by decide)) (fun z => absurd z (by decide)) (fun z => absurd z (by decide)) (fun z => absurd z (by decide)) (fun z => absurd z (by decide)) (fun z => absurd z (by decide)) (fun z => absurd z (by decide)) (fun z => absurd z (by decide)) (fun z => absurd z (by decide)) (fun z => absurd z (by decide)) (fun z => absurd z (by decide)) (fun z => absurd z (by decide)) (fun z => absurd z (by decide)) (fun z => absurd z (by decide)) (fun _ => bX10_count_146 ⟨?_, h'.up⟩)⟩)))))
      · rw [l7', ← l6', z]
      · rw [l6', i_b0] at z
        rw [l7', show mm = true by simpa using z]; rfl
    · have h13' : x.toInt ≠ 13 := fun z => h13 (x_toI 13 z (by decide))
      refine bX9_count_138 (bX1_tally_0 (fun _ => bX1_tally_86 (bX9_count_146 ⟨_, rfl, bX10_count_0 (fun _ => bX10_count_151 ⟨rfl, h'.up⟩) (fun z => by subst z; exact absurd q (by decide)) (fun z => by subst z; exact absurd q (by decide)) (fun z => by subst z; exact absurd q (by decide)) (fun z => by subst z; exact absurd q (by decide)) (fun z => by subst z; exact absurd q (by decide)) (fun z => by subst z; exact absurd q (by decide)) (fun z => by subst z; exact absurd q (by decide)) (fun z => by subst z; exact absurd q (by decide)) (fun z => by subst z; exact absurd q (by decide)) (fun z => by subst z; exact absurd q (by decide)) (fun z => by subst z; exact absurd q (by decide)) (fun z => by subst z; exact absurd q (by decide)) (fun z => by subst z; exact absurd q (by decide)) (fun z => absurd z h13)⟩)) (fun z => by subst z; exact absurd q (by decide)) (fun z => by subst z; exact absurd q (by decide)) (fun z => by subst z; exact absurd q (by decide)) (fun z => by subst z; exact absurd q (by decide)) (fun z => by subst z; exact absurd q (by decide)) (fun z => by subst z; exact absurd q (by decide)) (fun z => by subst z; exact absurd q (by decide)) (fun z => absurd z h13))
  · subst q
    refine bX9_count_68 ⟨_, rfl, bX10_count_0 (fun z => absurd z (by decide)) (fun _ => bX10_count_72 ⟨?_, h'.up⟩) (fun z => absurd z (by decide)) (fun z => absurd z (by decide)) (fun z => absurd z (by decide)) (fun z => absurd z (by decide)) (fun z => absurd z (by decide)) (fun z => absurd z (by decide)) (fun z => absurd z (by decide)) (fun z => absurd z (by decide)) (fun z => absurd z (by decide)) (fun z => absurd z (by decide)) (fun z => absurd z (by decide)) (fun z => absurd z (by decide)) (fun z => absurd z (by decide))⟩
    rw [q1]
  · subst q
    refine bX9_count_76 ⟨_, rfl, bX10_count_0 (fun z => absurd z (by decide)) (fun z => absurd z (by decide)) (fun _ => bX10_count_77 ⟨?_, h'.up⟩) (fun z => absurd z (by decide)) (fun z => absurd z (by decide)) (fun z => absurd z (by decide)) (fun z => absurd z (by decide)) (fun z => absurd z (by decide)) (fun z => absurd z (by decide)) (fun z => absurd z (by decide)) (fun z => absurd z (by decide)) (fun z => absurd z (by decide)) (fun z => absurd z (by decide)) (fun z => absurd z (by decide)) (fun z => absurd z (by decide))⟩
    rw [q2]
  · subst q
    refine bX9_count_84 ?_
    rw [hU']
    refine c_bitCount (by omega) (bX9_count_94 ⟨_, rfl, bX10_count_0 (fun z => absurd z (by decide)) (fun z => absurd z (by decide)) (fun z => absurd z (by decide)) (fun _ => bX10_count_82 ?_) (fun z => absurd z (by decide)) (fun z => absurd z (by decide)) (fun z => absurd z (by decide)) (fun z => absurd z (by decide)) (fun z => absurd z (by decide)) (fun z => absurd z (by decide)) (fun z => absurd z (by decide)) (fun z => absurd z (by decide)) (fun z => absurd z (by decide)) (fun z => absurd z (by decide)) (fun z => absurd z (by decide))⟩)
    rw [hM']
    refine s_ones hU14 (by decide) (bX10_count_92 ⟨?_, h'.up⟩)
    rw [pc1]
  · subst q
    refine bX9_count_95 (c_behind g1.1 hn8 g4 hU hseenC (bX9_count_102 (c_bitCount (by omega) (bX9_count_105 ⟨_, rfl, bX10_count_0 (fun z => absurd z (by decide)) (fun z => absurd z (by decide)) (fun z => absurd z (by decide)) (fun z => absurd z (by decide)) (fun _ => bX10_count_93 (s_behind m1.1 hn8 m4 hU hseenM (bX10_count_97 (s_ones (k := 8) hB.2 (by decide) (bX10_count_100 ⟨?_, h'.up⟩))))) (fun z => absurd z (by decide)) (fun z => absurd z (by decide)) (fun z => absurd z (by decide)) (fun z => absurd z (by decide)) (fun z => absurd z (by decide)) (fun z => absurd z (by decide)) (fun z => absurd z (by decide)) (fun z => absurd z (by decide)) (fun z => absurd z (by decide)) (fun z => absurd z (by decide))⟩))))
    rw [pc2]
  · subst q
    refine bX9_count_106 ⟨_, rfl, bX10_count_0 (fun z => absurd z (by decide)) (fun z => absurd z (by decide)) (fun z => absurd z (by decide)) (fun z => absurd z (by decide)) (fun z => absurd z (by decide)) (fun _ => bX10_count_101 ⟨?_, h'.up⟩) (fun z => absurd z (by decide)) (fun z => absurd z (by decide)) (fun z => absurd z (by decide)) (fun z => absurd z (by decide)) (fun z => absurd z (by decide)) (fun z => absurd z (by decide)) (fun z => absurd z (by decide)) (fun z => absurd z (by decide)) (fun z => absurd z (by decide))⟩
    rw [q3]
  · subst q
    refine bX9_count_114 ⟨_, rfl, bX10_count_0 (fun z => absurd z (by decide)) (fun z => absurd z (by decide)) (fun z => absurd z (by decide)) (fun z => absurd z (by decide)) (fun z => absurd z (by decide)) (fun z => absurd z (by decide)) (fun _ => bX10_count_106 ⟨?_, h'.up⟩) (fun z => absurd z (by decide)) (fun z => absurd z (by decide)) (fun z => absurd z (by decide)) (fun z => absurd z (by decide)) (fun z => absurd z (by decide)) (fun z => absurd z (by decide)) (fun z => absurd z (by decide)) (fun z => absurd z (by decide))⟩
    rw [q4]
  · subst q
    refine bX9_count_138 (bX1_tally_0 (fun z => absurd z (by decide)) (fun _ => bX1_tally_48 (bX9_count_146 ⟨_, rfl, bX10_count_0 (fun z => absurd z (by decide)) (fun z => absurd z (by decide)) (fun z => absurd z (by decide)) (fun z => absurd z (by decide)) (fun z => absurd z (by decide)) (fun z => absurd z (by decide)) (fun z => absurd z (by decide)) (fun _ => bX10_count_111 ⟨?_, h'.up⟩) (fun z => absurd z (by decide)) (fun z => absurd z (by decide)) (fun z => absurd z (by decide)) (fun z => absurd z (by decide)) (fun z => absurd z (by decide)) (fun z => absurd z (by decide)) (fun z => absurd z (by decide))⟩)) (fun z => absurd z (by decide)) (fun z => absurd z (by decide)) (fun z => absurd z (by decide)) (fun z => absurd z (by decide)) (fun z => absurd z (by decide)) (fun z => absurd z (by decide)) (fun z => absurd z (by decide)))
    rw [q7]
  · subst q
    refine bX9_count_138 (bX1_tally_0 (fun z => absurd z (by decide)) (fun z => absurd z (by decide)) (fun _ => bX1_tally_53 (bX9_count_146 ⟨_, rfl, bX10_count_0 (fun z => absurd z (by decide)) (fun z => absurd z (by decide)) (fun z => absurd z (by decide)) (fun z => absurd z (by decide)) (fun z => absurd z (by decide)) (fun z => absurd z (by decide)) (fun z => absurd z (by decide)) (fun z => absurd z (by decide)) (fun _ => bX10_count_116 ⟨?_, h'.up⟩) (fun z => absurd z (by decide)) (fun z => absurd z (by decide)) (fun z => absurd z (by decide)) (fun z => absurd z (by decide)) (fun z => absurd z (by decide)) (fun z => absurd z (by decide))⟩)) (fun z => absurd z (by decide)) (fun z => absurd z (by decide)) (fun z => absurd z (by decide)) (fun z => absurd z (by decide)) (fun z => absurd z (by decide)) (fun z => absurd z (by decide)))
    rw [q8]
  · subst q
    refine bX9_count_138 (bX1_tally_0 (fun z => absurd z (by decide)) (fun z => absurd z (by decide)) (fun z => absurd z (by decide)) (fun _ => bX1_tally_58 (bX9_count_146 ⟨_, rfl, bX10_count_0 (fun z => absurd z (by decide)) (fun z => absurd z (by decide)) (fun z => absurd z (by decide)) (fun z => absurd z (by decide)) (fun z => absurd z (by decide)) (fun z => absurd z (by decide)) (fun z => absurd z (by decide)) (fun z => absurd z (by decide)) (fun z => absurd z (by decide)) (fun _ => bX10_count_121 ⟨?_, h'.up⟩) (fun z => absurd z (by decide)) (fun z => absurd z (by decide)) (fun z => absurd z (by decide)) (fun z => absurd z (by decide)) (fun z => absurd z (by decide))⟩)) (fun z => absurd z (by decide)) (fun z => absurd z (by decide)) (fun z => absurd z (by decide)) (fun z => absurd z (by decide)) (fun z => absurd z (by decide)))
    rw [l3']
  · subst q
    refine bX9_count_138 (bX1_tally_0 (fun z => absurd z (by decide)) (fun z => absurd z (by decide)) (fun z => absurd z (by decide)) (fun z => absurd z (by decide)) (fun _ => bX1_tally_63 (bX9_count_146 ⟨_, rfl, bX10_count_0 (fun z => absurd z (by decide)) (fun z => absurd z (by decide)) (fun z => absurd z (by decide)) (fun z => absurd z (by decide)) (fun z => absurd z (by decide)) (fun z => absurd z (by decide)) (fun z => absurd z (by decide)) (fun z => absurd z (by decide)) (fun z => absurd z (by decide)) (fun z => absurd z (by decide)) (fun _ => bX10_count_126 ⟨?_, h'.up⟩) (fun z => absurd z (by decide)) (fun z => absurd z (by decide)) (fun z => absurd z (by decide)) (fun z => absurd z (by decide))⟩)) (fun z => absurd z (by decide)) (fun z => absurd z (by decide)) (fun z => absurd z (by decide)) (fun z => absurd z (by decide)))
    rw [l5']
  · subst q
    refine bX9_count_138 (bX1_tally_0 (fun z => absurd z (by decide)) (fun z => absurd z (by decide)) (fun z => absurd z (by decide)) (fun z => absurd z (by decide)) (fun z => absurd z (by decide)) (fun _ => bX1_tally_68 (bX9_count_146 ⟨_, rfl, bX10_count_0 (fun z => absurd z (by decide)) (fun z => absurd z (by decide)) (fun z => absurd z (by decide)) (fun z => absurd z (by decide)) (fun z => absurd z (by decide)) (fun z => absurd z (by decide)) (fun z => absurd z (by decide)) (fun z => absurd z (by decide)) (fun z => absurd z (by decide)) (fun z => absurd z (by decide)) (fun z => absurd z (by decide)) (fun _ => bX10_count_131 ⟨?_, h'.up⟩) (fun z => absurd z (by decide)) (fun z => absurd z (by decide)) (fun z => absurd z (by decide))⟩)) (fun z => absurd z (by decide)) (fun z => absurd z (by decide)) (fun z => absurd z (by decide)))
    rw [l4']
  · subst q
    refine bX9_count_122 ⟨_, rfl, bX10_count_0 (fun z => absurd z (by decide)) (fun z => absurd z (by decide)) (fun z => absurd z (by decide)) (fun z => absurd z (by decide)) (fun z => absurd z (by decide)) (fun z => absurd z (by decide)) (fun z => absurd z (by decide)) (fun z => absurd z (by decide)) (fun z => absurd z (by decide)) (fun z => absurd z (by decide)) (fun z => absurd z (by decide)) (fun z => absurd z (by decide)) (fun _ => bX10_count_136 ⟨?_, h'.up⟩) (fun z => absurd z (by decide)) (fun z => absurd z (by decide))⟩
    rw [q5]
  · subst q
    refine bX9_count_130 ⟨_, rfl, bX10_count_0 (fun z => absurd z (by decide)) (fun z => absurd z (by decide)) (fun z => absurd z (by decide)) (fun z => absurd z (by decide)) (fun z => absurd z (by decide)) (fun z => absurd z (by decide)) (fun z => absurd z (by decide)) (fun z => absurd z (by decide)) (fun z => absurd z (by decide)) (fun z => absurd z (by decide)) (fun z => absurd z (by decide)) (fun z => absurd z (by decide)) (fun z => absurd z (by decide)) (fun _ => bX10_count_141 ⟨?_, h'.up⟩) (fun z => absurd z (by decide))⟩
    rw [q6]
/-- a way leads from u to w, and not over l -/
def g_sp (n ln : Nat) (lo hi c : Nat → Nat) (S l u w : Nat) : Prop := ∃ m W, m < n ∧ g_way (fun x => g_nxt (g_e ln lo hi c S) n x w) u w m W ∧ g_ov ln lo hi m l W = false
theorem g_sp_1 {n ln S l u w m : Nat} {lo hi c W : Nat → Nat} (hN : g_net n ln lo hi) (hc : g_cs ln c) (hm : m < n) (h : g_way (fun x => g_nxt (g_e ln lo hi c S) n x w) u w m W) : g_p (g_sp n ln lo hi c S l u w) = !g_ov ln lo hi m l W := by
  have he := g_e_ok hN hc S
  cases ho : g_ov ln lo hi m l W with
  | false => exact g_p_iff.mpr ⟨m, W, hm, h, ho⟩
  | true =>
    refine g_p_f.mpr ?_
    rintro ⟨m', W', h1, h2, h3⟩
    have e1 := g_way_len (f := fun x => g_nxt (g_e ln lo hi c S) n x w) (g_nxt_self he w) h h2
    subst e1
    obtain ⟨j, hj, hl⟩ := g_ov_iff.mp ho
    have e2 := g_way_pre h h2 j (by omega) (by omega)
    have e3 := g_way_pre h h2 (j + 1) (by omega) (by omega)
    rw [e2, e3] at hl
    have := g_ov_iff.mpr ⟨j, hj, hl⟩
    rw [this] at h3
    cases h3
theorem g_sp_0 {n ln S l u w : Nat} {lo hi c : Nat → Nat} (hN : g_net n ln lo hi) (hc : g_cs ln c) (h : ¬ g_rch (g_e ln lo hi c S) u w) : g_p (g_sp n ln lo hi c S l u w) = false := by
  refine g_p_f.mpr ?_
  rintro ⟨m', W', h1, h2, h3⟩
  exact h (g_way_rch (g_e_ok hN hc S) h2)
noncomputable def g_spw (n ln : Nat) (lo hi c : Nat → Nat) (S l : Nat) (out : Bool) (u w : Nat) : Bool := g_p (g_sp n ln lo hi c S l (if out = true then u else w) (if out = true then w else u))
theorem o_space {k : Nat} {x y z : Int32} {I : Nat → Nat → Int32} {L : Nat → Int64} (h : Rel k I) : Op k mX9_space mX10_space [(1, .int x), (2, .int y), (3, .int z)] I L := by
  have h' := h
  obtain ⟨n, ln, lo, hi, c0, c1, U, seen, ⟨hN, hc0, hc1, -, -, hU, hS⟩, ⟨g1, g2, g3, g4, g5⟩, m1, m2, m3, m4, m5⟩ := h.opn
  have hn8 := hN.2.1
  have hln := hN.2.2.1
  have bad : (g_is n x && g_is ln y) = false → ∀ I L (Q : Option Value → (Nat → Nat → Int32) → (Nat → Int64) → Prop), mG I n ln lo hi → Q (some (.int (-2))) I L → XS mX10_space 0 [(0, .ref 49), (1, .int x), (2, .int y), (3, .int z)] [] I L Q := fun hb I L Q m1 K => by
    refine bX10_space_0 (s_isNode m1 (by omega) ?_)
    cases hx : g_is n x with
    | false => exact bX10_space_5 (fun _ => bX10_space_16 K) (fun q => absurd rfl q)
    | true =>
      refine bX10_space_5 (fun q => absurd q (by decide)) (fun _ => bX10_space_8 (s_isLink m1 (by omega) ?_))
      rw [hx, Bool.true_and] at hb
      rw [hb]
      exact bX10_space_13 (fun q => absurd rfl q) (fun _ => bX10_space_16 K)
  refine bX9_space_0 (c_hasNode g1 ?_)
  cases hx : g_is n x with
  | false => exact bX9_space_8 (fun _ => bX9_space_22 ⟨_, rfl, bad (by rw [hx]; rfl) _ _ _ m1 ⟨rfl, h'.up⟩⟩) (fun q => absurd rfl q)
  | true =>
    refine bX9_space_8 (fun q => absurd q (by decide)) (fun _ => bX9_space_11 (c_hasLink g1 ?_))
    cases hy : g_is ln y with
    | false => exact bX9_space_19 (fun q => absurd rfl q) (fun _ => bX9_space_22 ⟨_, rfl, bad (by rw [hx, hy]; rfl) _ _ _ m1 ⟨rfl, h'.up⟩⟩)
    | true =>
      obtain ⟨u, hu, rfl⟩ := (g_is_iff (by omega)).mp hx
      obtain ⟨l, hl, rfl⟩ := (g_is_iff (by omega)).mp hy
      have ref : ∀ I L (Q : Option Value → (Nat → Nat → Int32) → (Nat → Int64) → Prop), mG I n ln lo hi → XS mX10_space 19 [(0, .ref 49), (1, .int (nI u)), (2, .int (nI l)), (3, .int z)] [] I L Q → XS mX10_space 0 [(0, .ref 49), (1, .int (nI u)), (2, .int (nI l)), (3, .int z)] [] I L Q := fun I L Q m1 K => by
        refine bX10_space_0 (s_isNode m1 (by omega) ?_)
        rw [hx]
        refine bX10_space_5 (fun q => absurd q (by decide)) (fun _ => bX10_space_8 (s_isLink m1 (by omega) ?_))
        rw [hy]
        exact bX10_space_13 (fun _ => K) (fun q => absurd q (by decide))
      have good : ∀ out : Bool, z = (if out = true then 0 else 1) → XS mX9_space 37 [(0, .ref 0), (1, .int (nI u)), (2, .int (nI l)), (3, .int z)] [] I L (fun r I1 L1 => ∃ v, r = some (.int v) ∧ XS mX10_space 0 [(0, .ref 49), (1, .int (nI u)), (2, .int (nI l)), (3, .int z)] [] I1 L1 (fun r2 I2 _ => r2 = some (.int v) ∧ Rel (k + 1) I2)) := by
        intro out hz
        have hz01 : z = 0 ∨ z = 1 := by cases out <;> simp at hz <;> simp [hz]
        have hzo : z = 0 ↔ out = true := by cases out <;> simp at hz <;> rw [hz] <;> decide
        have fin : ∀ I1 (L1 : Nat → Int64), Sm [1088, 1152, 1216] I I1 → XS mX10_space 0 [(0, .ref 49), (1, .int (nI u)), (2, .int (nI l)), (3, .int z)] [] I1 L1 (fun r2 I2 _ => r2 = some (.int (nI (g_mk (g_spw n ln lo hi c0 (seen u) l out u) n))) ∧ Rel (k + 1) I2) := by
          intro I1 L1 s1
          have m1' : mG I1 n ln lo hi := m1.sm s1 (by decide) (by decide) (by decide) (by decide)
          refine ref I1 L1 _ m1' (bX10_space_19 (s_in01 ?_))
          rw [decide_eq_true hz01]
          refine bX10_space_25 (fun _ => bX10_space_31 ?_) (fun q => absurd q (by decide))
          have hv : vp_in ((29 : Int32) + nI u) 37 := i_vp (29 + u) (nI_add 29 u) (by omega) (by decide)
          have hcl := i_cl (x := (29 : Int32) + nI u) (29 + u) (nI_add 29 u) (by omega)
          have loop : ∀ d w I2, w + d = n → Sm [3712, 3151, 3776] I1 I2 → XS mX10_space 37 [(0, .ref 49), (1, .int (nI u)), (2, .int (nI l)), (3, .int z), (4, .int (nI (g_mk (g_spw n ln lo hi c0 (seen u) l out u) w))), (5, .int (nI w))] [] I2 L1 (fun r2 I2 _ => r2 = some (.int (nI (g_mk (g_spw n ln lo hi c0 (seen u) l out u) n))) ∧ Rel (k + 1) I2) := by
            intro d
            induction d with
            | zero =>
              intro w I2 hw s2
              have e : w = n := by omega
              subst e
              refine bX10_space_37 (fun _ => bX10_space_121 ⟨rfl, (h'.sm s1 (by decide) (Nat.le_refl _)).sm s2 (by decide) (by omega)⟩) (fun q => ?_)
              rw [s2 3136 (by decide), show I1 3136 0 = nI w from m1'.1] at q
              exact absurd ((nI_leI (by omega) (by omega)).mpr (Nat.le_refl _)) q
            | succ d ih =>
              intro w I2 hw s2
              have m1'' : mG I2 n ln lo hi := m1'.sm s2 (by decide) (by decide) (by decide) (by decide)
              have m2' : mC I2 ln 0 c0 := (m2.sm s1 (by decide)).sm s2 (by decide)
              have e5 : I2 3392 (29 + u) = nI (seen u) := by rw [s2 3392 (by decide), s1 3392 (by decide)]; exact m5 u hu
              have step : ∀ I3 (b : Int32), Sm [3712, 3151, 3776] I1 I3 → b = nI (if g_spw n ln lo hi c0 (seen u) l out u w = true then 2 ^ w else 0) → XS mX10_space 112 [(0, .ref 49), (1, .int (nI u)), (2, .int (nI l)), (3, .int z), (5, .int (nI w))] [.int b, .int (nI (g_mk (g_spw n ln lo hi c0 (seen u) l out u) w))] I3 L1 (fun r2 I2 _ => r2 = some (.int (nI (g_mk (g_spw n ln lo hi c0 (seen u) l out u) n))) ∧ Rel (k + 1) I2) := by
                rintro I3 b s3 rfl
                refine bX10_space_112 ?_
                rw [i_or, nI_1]
                have e : g_mk (g_spw n ln lo hi c0 (seen u) l out u) w ||| (if g_spw n ln lo hi c0 (seen u) l out u w = true then 2 ^ w else 0) = g_mk (g_spw n ln lo hi c0 (seen u) l out u) (w + 1) := by
                  rw [g_mk_succ]
                  split
                  · rfl
                  · rw [Nat.or_zero]
                rw [e]
                exact ih (w + 1) I3 (by omega) s3
              have on : ∀ I3 m W, Sm [3712, 3151, 3776] I2 I3 → m < n → (∀ j, j ≤ m → W j < n) → mW I3 m W → g_spw n ln lo hi c0 (seen u) l out u w = !g_ov ln lo hi m l W → XS mX10_space 87 [(0, .ref 49), (1, .int (nI u)), (2, .int (nI l)), (3, .int z), (4, .int (nI (g_mk (g_spw n ln lo hi c0 (seen u) l out u) w))), (5, .int (nI w))] [.int 1] I3 L1 (fun r2 I2 _ => r2 = some (.int (nI (g_mk (g_spw n ln lo hi c0 (seen u) l out u) n))) ∧ Rel (k + 1) I2) := by
                intro I3 m W s3 hm hWn hW he
                refine bX10_space_87 (fun q => absurd q (by decide)) (fun _ => bX10_space_96 (s_isOver (m1''.sm s3 (by decide) (by decide) (by decide) (by decide)) hN hW hWn hm hl ?_))
                cases ho : g_ov ln lo hi m l W with
                | true =>
                  rw [ho] at he
                  refine bX10_space_101 (fun _ => bX10_space_111 (step I3 _ (s2.tr s3) ?_)) (fun q => absurd q (by decide))
                  rw [he, if_neg (by simp)]; rfl
                | false =>
                  rw [ho] at he
                  refine bX10_space_101 (fun q => absurd rfl q) (fun _ => bX10_space_104 (step I3 _ (s2.tr s3) ?_))
                  rw [he, if_pos (by rfl), i_1shl (by omega)]
              have off : ∀ I3, Sm [3712, 3151, 3776] I2 I3 → g_spw n ln lo hi c0 (seen u) l out u w = false → XS mX10_space 87 [(0, .ref 49), (1, .int (nI u)), (2, .int (nI l)), (3, .int z), (4, .int (nI (g_mk (g_spw n ln lo hi c0 (seen u) l out u) w))), (5, .int (nI w))] [.int 0] I3 L1 (fun r2 I2 _ => r2 = some (.int (nI (g_mk (g_spw n ln lo hi c0 (seen u) l out u) n))) ∧ Rel (k + 1) I2) := by
                intro I3 s3 he
                refine bX10_space_87 (fun _ => bX10_space_111 (step I3 _ (s2.tr s3) ?_)) (fun q => absurd rfl q)
                rw [he, if_neg (by simp)]; rfl
              refine bX10_space_37 (fun q => ?_) (fun _ => bX10_space_46 (fun q => ?_) (fun q => ?_))
              · rw [show I2 3136 0 = nI n from m1''.1, nI_leI (by omega) (by omega)] at q; omega
              · have ho : out = false := by
                  cases out with
                  | false => rfl
                  | true => exact absurd (hzo.mpr rfl) q
                subst ho
                refine bX10_space_70 hv ?_
                rw [hcl, e5]
                refine s_walks m1'' hN m2' hc0 (hS u hu) (by omega) hu (fun I3 m W s3 hm hway hWn hW => on I3 m W s3 hm hWn hW (g_sp_1 hN hc0 hm hway)) (fun I3 s3 hr => off I3 s3 (g_sp_0 hN hc0 hr))
              · have ho : out = true := hzo.mp q
                subst ho
                refine bX10_space_50 hv ?_
                rw [hcl, e5]
                refine s_walks m1'' hN m2' hc0 (hS u hu) hu (by omega) (fun I3 m W s3 hm hway hWn hW => bX10_space_67 (on I3 m W s3 hm hWn hW (g_sp_1 hN hc0 hm hway))) (fun I3 s3 hr => bX10_space_67 (off I3 s3 (g_sp_0 hN hc0 hr)))
          exact loop n 0 I1 (by omega) Sm.rf
        have loop : ∀ d w I1 (L1 : Nat → Int64), w + d = n → Sm [1088, 1152, 1216] I I1 → XS mX9_space 43 [(0, .ref 0), (1, .int (nI u)), (2, .int (nI l)), (3, .int z), (4, .int (nI (g_mk (g_spw n ln lo hi c0 (seen u) l out u) w))), (5, .int (nI w))] [] I1 L1 (fun r I1 L1 => ∃ v, r = some (.int v) ∧ XS mX10_space 0 [(0, .ref 49), (1, .int (nI u)), (2, .int (nI l)), (3, .int z)] [] I1 L1 (fun r2 I2 _ => r2 = some (.int v) ∧ Rel (k + 1) I2)) := by
          intro d
          induction d with
          | zero =>
            intro w I1 L1 hw s1
            have e : w = n := by omega
            subst e
            refine bX9_space_43 (fun _ => bX9_space_118 ⟨_, rfl, fin I1 L1 s1⟩) (fun q => ?_)
            rw [s1 64 (by decide), show I 64 0 = nI w from g1.1] at q
            exact absurd ((nI_leI (by omega) (by omega)).mpr (Nat.le_refl _)) q
          | succ d ih =>
            intro w I1 L1 hw s1
            have g1' : cG I1 n ln lo hi := g1.sm s1 (by decide) (by decide) (by decide) (by decide)
            have g2' : cC I1 ln 0 c0 := fun j hj => by rw [s1 _ (by decide)]; exact g2 j hj
            have e5 : I1 448 u = nI (seen u) := by rw [s1 448 (by decide)]; exact g5 u hu
            have next : ∀ I2 (L2 : Nat → Int64), Sm [1088, 1152, 1216] I I2 → XS mX9_space 100 [(0, .ref 0), (1, .int (nI u)), (2, .int (nI l)), (3, .int z), (4, .int (nI (g_mk (g_spw n ln lo hi c0 (seen u) l out u) w))), (5, .int (nI w))] [.int (i_b (g_spw n ln lo hi c0 (seen u) l out u w))] I2 L2 (fun r I1 L1 => ∃ v, r = some (.int v) ∧ XS mX10_space 0 [(0, .ref 49), (1, .int (nI u)), (2, .int (nI l)), (3, .int z)] [] I1 L1 (fun r2 I2 _ => r2 = some (.int v) ∧ Rel (k + 1) I2)) := by
              intro I2 L2 s2
              refine bX9_space_100 (fun q => bX9_space_112 ?_) (fun q => bX9_space_103 (bX9_space_112 ?_))
              · rw [i_b0] at q
                rw [nI_1]
                have := ih (w + 1) I2 L2 (by omega) s2
                rw [g_mk_succ, if_neg (by rw [q]; simp)] at this
                exact this
              · rw [i_b0] at q
                rw [nI_1, i_1shl (by omega), i_or]
                have := ih (w + 1) I2 L2 (by omega) s2
                rw [g_mk_succ, if_pos (by simpa using q)] at this
                exact this
            refine bX9_space_43 (fun q => ?_) (fun _ => bX9_space_55 (fun q => ?_) (fun q => ?_))
            · rw [show I1 64 0 = nI n from g1'.1, nI_leI (by omega) (by omega)] at q; omega
            · have ho : out = false := by
                cases out with
                | false => rfl
                | true => exact absurd (hzo.mpr rfl) q
              subst ho
              refine bX9_space_63 (bX9_space_65 (fun _ => bX9_space_76 (bX9_space_77 (vp_in_nI (by omega) (by decide)) ?_)) (fun q2 => absurd q2 q))
              rw [nI_clamp (by omega), e5]
              refine c_walkSpares g1' hN g2' hc0 (hS u hu) (by omega) hu hl (fun I2 m W s2 hm hway hWn => ?_) (fun I2 s2 hr => ?_)
              · rw [← g_sp_1 (l := l) hN hc0 hm hway]
                exact next I2 L1 (s1.tr s2)
              · have := next I2 L1 (s1.tr s2)
                rw [show g_spw n ln lo hi c0 (seen u) l false u w = false from g_sp_0 hN hc0 hr] at this
                exact this
            · have ho : out = true := hzo.mp q
              subst ho
              refine bX9_space_59 (bX9_space_65 (fun q2 => absurd q q2) (fun _ => bX9_space_71 (bX9_space_77 (vp_in_nI (by omega) (by decide)) ?_)))
              rw [nI_clamp (by omega), e5]
              refine c_walkSpares g1' hN g2' hc0 (hS u hu) hu (by omega) hl (fun I2 m W s2 hm hway hWn => ?_) (fun I2 s2 hr => ?_)
              · rw [← g_sp_1 (l := l) hN hc0 hm hway]
                exact next I2 L1 (s1.tr s2)
              · have := next I2 L1 (s1.tr s2)
                rw [show g_spw n ln lo hi c0 (seen u) l true u w = false from g_sp_0 hN hc0 hr] at this
                exact this
        exact bX9_space_37 (loop n 0 I L (by omega) Sm.rf)
      refine bX9_space_19 (fun _ => bX9_space_25 (fun q => good true q) (fun q => bX9_space_29 (fun q2 => good false q2) (fun q2 => bX9_space_34 ⟨_, rfl, ref I L _ m1 (bX10_space_19 (s_in01 ?_))⟩))) (fun q => absurd q (by decide))
      rw [decide_eq_false (by rintro (w | w); exact q w; exact q2 w)]
      exact bX10_space_25 (fun q => absurd rfl q) (fun _ => bX10_space_28 ⟨rfl, h'.up⟩)
