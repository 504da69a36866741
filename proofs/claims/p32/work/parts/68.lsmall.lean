/-! ===== the law's own small methods ===== -/
theorem i_31 (x : Int32) : ∃ a, a < 2 ^ 31 ∧ x &&& (2147483647 : Int32) = nI a := by
  obtain ⟨z, rfl⟩ := nI_any x
  refine ⟨z &&& 2147483647, ?_, i_and z 2147483647⟩
  have : z &&& 2147483647 ≤ 2147483647 := Nat.and_le_right
  omega
theorem l_part {x y : Int32} {I : Nat → Nat → Int32} {L : Nat → Int64} {Q : Option Value → (Nat → Nat → Int32) → (Nat → Int64) → Prop} (n : Nat) (hy : y = nI n) (hn : 0 < n) (hn2 : n < 2 ^ 31) (K : ∀ r, r < n → Q (some (.int (nI r))) I L) : XS mL_part 0 [(0, .int x), (1, .int y)] [] I L Q := by
  subst hy
  have hne : ¬ nI n = 0 := fun z => by
    have := (i_eq n 0 rfl rfl hn2 (by decide)).mp z
    omega
  refine bL_part_0 hne ?_
  obtain ⟨a, ha, e⟩ := i_31 x
  rw [e, pk_rem ha hn hn2]
  exact K _ (Nat.mod_lt _ hn)
theorem l_cell {x : Int32} {Ln : Nat} {xs : Nat → Int32} {I : Nat → Nat → Int32} {L : Nat → Int64} {Q : Option Value → (Nat → Nat → Int32) → (Nat → Int64) → Prop} (k : Nat) (hx : x = nI k) (hk : k < 2 ^ 31) (hL : Ln ≤ 260) (K : ∀ v, Q (some (.int v)) I L) : XT (0, 0) Ln xs mL_cell 0 [(0, .ref 1000020), (1, .int x)] [] I L Q := by
  subst hx
  refine bL_cell_0 (fun h => ?_) (fun h => bL_cell_5 (bL_cell_39 (K _)))
  have h0 : 0 < Ln := by
    apply Classical.byContradiction
    intro z
    exact h (by rw [show Ln = 0 by omega]; rfl)
  refine bL_cell_15 h ?_ h (bL_cell_39 (K _))
  show vp_in (nI k - nI k / nI Ln * nI Ln) Ln
  rw [pk_rem hk h0 (by omega)]
  exact vp_in_nI (Nat.mod_lt _ h0) (by omega)
theorem l_says {S : q_S} {t : List Nat} {x y z w : Int32} {I : Nat → Nat → Int32} {L : Nat → Int64} {Q : Option Value → (Nat → Nat → Int32) → (Nat → Int64) → Prop} (a b c d : Nat) (hx : x = nI a) (hy : y = nI b) (hz : z = nI c) (hw : w = nI d) (h4 : a < 256 ∧ b < 256 ∧ c < 256 ∧ d < 256) (hl : t.length + 4 ≤ 200) (h : Cl I (uT S t)) (K : ∀ (I' : Nat → Nat → Int32) (L' : Nat → Int64), Cl I' (uT S (t ++ [a, b, c, d])) → Q none I' L') : XS mL_says 0 [(0, .ref 0), (1, .int x), (2, .int y), (3, .int z), (4, .int w)] [] I L Q := by
  have e : t ++ [a, b, c, d] = (((t ++ [a]) ++ [b]) ++ [c]) ++ [d] := by simp
  rw [e] at K
  refine bL_says_0 (k_write a hx h4.1 (by omega) h (fun I1 L1 h1 => ?_))
  refine bL_says_5 (k_write b hy h4.2.1 (by simp; omega) h1 (fun I2 L2 h2 => ?_))
  refine bL_says_11 (k_write c hz h4.2.2.1 (by simp; omega) h2 (fun I3 L3 h3 => ?_))
  refine bL_says_17 (k_write d hw h4.2.2.2 (by simp; omega) h3 (fun I4 L4 h4 => ?_))
  exact bL_says_24 (K I4 L4 h4)
/-- the law's own numbers: nodes, links, the ends of each -/
def gR (G : Nat → Int32) (n ln : Nat) (lo hi : Nat → Nat) : Prop := G 0 = nI n ∧ G 1 = nI ln ∧ ∀ l, l < ln → G (2 + 4 * l) = nI (lo l) ∧ G (3 + 4 * l) = nI (hi l)
theorem i_4l (b l : Nat) : nI b + (4 : Int32) * nI l = nI (b + 4 * l) := by
  rw [show (4 : Int32) * nI l = nI (4 * l) from pk_mul 4 l, nI_add]
theorem l_linkOf {x y : Int32} {I : Nat → Nat → Int32} {L : Nat → Int64} {Q : Option Value → (Nat → Nat → Int32) → (Nat → Int64) → Prop} {n ln : Nat} {lo hi : Nat → Nat} (u v : Nat) (hx : x = nI u) (hy : y = nI v) (hN : g_net n ln lo hi) (hG : gR (I 3136) n ln lo hi) (hu : u < 2 ^ 31) (hv : v < 2 ^ 31) (K : Q (some (.int (i_o (g_lk ln lo hi u v)))) I L) : XS mL_linkOf 0 [(0, .ref 49), (1, .int x), (2, .int y)] [] I L Q := by
  subst hx; subst hy
  obtain ⟨G0, G1, G2⟩ := hG
  have hln := hN.2.2.1
  have hn8 := hN.2.1
  have key : ∀ d l, l + d = ln → (∀ j, j < l → g_lkp lo hi u v j = false) → XS mL_linkOf 2 [(0, .ref 49), (1, .int (nI u)), (2, .int (nI v)), (3, .int (nI l))] [] I L Q := by
    intro d
    induction d with
    | zero =>
      intro l hl hno
      refine bL_linkOf_2 (fun _ => bL_linkOf_61 ?_) (fun q => ?_)
      · rw [show g_lk ln lo hi u v = none from g_fst_none.mpr (fun j hj => hno j (by omega))] at K
        exact K
      · rw [G1] at q
        exact absurd ((nI_leI (by omega) (by omega)).mpr (by omega)) q
    | succ d ih =>
      intro l hl hno
      obtain ⟨a1, a2⟩ := G2 l (by omega)
      obtain ⟨b1, b2⟩ := hN.2.2.2.1 l (by omega)
      have e2 : (2 : Int32) + (4 : Int32) * nI l = nI (2 + 4 * l) := i_4l 2 l
      have e3 : (3 : Int32) + (4 : Int32) * nI l = nI (3 + 4 * l) := i_4l 3 l
      have v2 : vp_in ((2 : Int32) + (4 : Int32) * nI l) 64 := by rw [e2]; exact vp_in_nI (by omega) (by decide)
      have v3 : vp_in ((3 : Int32) + (4 : Int32) * nI l) 64 := by rw [e3]; exact vp_in_nI (by omega) (by decide)
      have c2 : ((2 : Int32) + (4 : Int32) * nI l).toNatClampNeg = 2 + 4 * l := by rw [e2]; exact nI_clamp (by omega)
      have c3 : ((3 : Int32) + (4 : Int32) * nI l).toNatClampNeg = 3 + 4 * l := by rw [e3]; exact nI_clamp (by omega)
      have yes : g_lkp lo hi u v l = true → XS mL_linkOf 53 [(3, .int (nI l))] [] I L Q := fun hp => by
        rw [show g_lk ln lo hi u v = some l from g_fst_some.mpr ⟨by omega, hp, hno⟩] at K
        exact bL_linkOf_53 K
      have no : g_lkp lo hi u v l = false → XS mL_linkOf 55 [(0, .ref 49), (1, .int (nI u)), (2, .int (nI v)), (3, .int (nI l))] [] I L Q := fun hp => by
        refine bL_linkOf_55 ?_
        rw [nI_1]
        refine ih (l + 1) (by omega) (fun j hj => ?_)
        by_cases hjl : j = l
        · rw [hjl]; exact hp
        · exact hno j (by omega)
      have second : ¬ (lo l = u ∧ hi l = v) → XS mL_linkOf 31 [(0, .ref 49), (1, .int (nI u)), (2, .int (nI v)), (3, .int (nI l))] [] I L Q := fun hne => by
        refine bL_linkOf_31 v2 (fun q => no ?_) (fun q => bL_linkOf_42 v3 (fun q2 => no ?_) (fun q2 => yes ?_))
        · rw [c2, a1, nI_eq (by omega) hv] at q
          rw [Bool.eq_false_iff]; intro z
          rcases g_lkp_iff.mp z with ⟨z1, z2⟩ | ⟨z1, z2⟩
          · exact hne ⟨z1, z2⟩
          · exact q z1
        · rw [c3, a2, nI_eq (by omega) hu] at q2
          rw [Bool.eq_false_iff]; intro z
          rcases g_lkp_iff.mp z with ⟨z1, z2⟩ | ⟨z1, z2⟩
          · exact hne ⟨z1, z2⟩
          · exact q2 z2
        · rw [c2, a1, nI_eq (by omega) hv] at q
          rw [c3, a2, nI_eq (by omega) hu] at q2
          exact g_lkp_iff.mpr (Or.inr ⟨q, q2⟩)
      refine bL_linkOf_2 (fun q => ?_) (fun _ => bL_linkOf_9 v2 (fun q => second ?_) (fun q => bL_linkOf_20 v3 (fun q2 => yes ?_) (fun q2 => second ?_)))
      · rw [G1, nI_leI (by omega) (by omega)] at q; omega
      · rw [c2, a1, nI_eq (by omega) hu] at q
        exact fun z => q z.1
      · rw [c2, a1, nI_eq (by omega) hu] at q
        rw [c3, a2, nI_eq (by omega) hv] at q2
        exact g_lkp_iff.mpr (Or.inl ⟨q, q2⟩)
      · rw [c3, a2, nI_eq (by omega) hv] at q2
        exact fun z => q2 z.2
  exact bL_linkOf_0 (key ln 0 (by omega) (fun j hj => by omega))
/-! ===== whole ===== -/
def hh (f : Nat → Int64) (h : Int64) : Nat → Int64
  | 0 => h
  | k + 1 => 31 * hh f h k + f k
def hk (g : Nat → Int64 → Int64) (h : Int64) : Nat → Int64
  | 0 => h
  | k + 1 => g k (hk g h k)
noncomputable def hW (S : q_S) : Int64 :=
  31 * hk (fun k h => 31 * h + 100 * (oSg S k 0).toInt64 + (oSg S k 1).toInt64) (hh (fun u => (nI (S.1.2.2.2.2.2.2.2 u)).toInt64) (hk (fun l h => hh (fun w => (oLk S l w).toInt64) h 6) (hh (fun k => (oCt S k).toInt64) 31 11) S.1.2.1) S.1.1) (sF S).length + (oBr S 0).toInt64 + 1000 * (oBr S (-1)).toInt64
theorem l_whole {S : q_S} {I : Nat → Nat → Int32} {L : Nat → Int64} {Q : Option Value → (Nat → Nat → Int32) → (Nat → Int64) → Prop} (h : Cl I S) (K : ∀ (I' : Nat → Nat → Int32) (L' : Nat → Int64), Cl I' S → Q (some (.long (hW S))) I' L') : XS mL_whole 0 [(0, .ref 0)] [] I L Q := by
  obtain ⟨-, hn8, hln, -⟩ := g_okS_E h.1
  have hF8 := h.2.2.2.1.1
  -- the counts
  have p1 : ∀ d k I L, k + d = 11 → Cl I S → (∀ I' L', Cl I' S → XS mL_whole 31 [(0, .ref 0), (1, .long (hh (fun k => (oCt S k).toInt64) 31 11))] [] I' L' Q) → XS mL_whole 6 [(0, .ref 0), (1, .long (hh (fun k => (oCt S k).toInt64) 31 k)), (3, .int (nI k))] [] I L Q := by
    intro d
    induction d with
    | zero =>
      intro k I L hk h K
      refine bL_whole_6 (fun _ => ?_) (fun q => absurd ((i_le 11 k rfl rfl (by decide) (by omega)).mpr (by omega)) q)
      rw [show k = 11 by omega]
      exact K I L h
    | succ d ih =>
      intro k I L hk h K
      refine bL_whole_6 (fun q => ?_) (fun _ => bL_whole_12 (k_count k rfl (by omega) h (fun I1 L1 h1 => bL_whole_22 ?_)))
      · have := (i_le 11 k rfl rfl (by decide) (by omega)).mp q; omega
      · rw [nI_1]
        exact ih (k + 1) I1 L1 (by omega) h1 K
  -- the links
  have p2 : ∀ l b d k I L, l < S.1.2.1 → k + d = 6 → Cl I S → (∀ I' L', Cl I' S → XS mL_whole 73 [(0, .ref 0), (1, .long (hh (fun w => (oLk S l w).toInt64) b 6)), (3, .int (nI l))] [] I' L' Q) → XS mL_whole 45 [(0, .ref 0), (1, .long (hh (fun w => (oLk S l w).toInt64) b k)), (3, .int (nI l)), (4, .int (nI k))] [] I L Q := by
    intro l b d
    induction d with
    | zero =>
      intro k I L hl hk h K
      refine bL_whole_45 (fun _ => ?_) (fun q => absurd ((i_le 6 k rfl rfl (by decide) (by omega)).mpr (by omega)) q)
      rw [show k = 6 by omega]
      exact K I L h
    | succ d ih =>
      intro k I L hl hk h K
      refine bL_whole_45 (fun q => ?_) (fun _ => bL_whole_52 (k_link l k rfl rfl hl (by omega) h (fun I1 L1 h1 => bL_whole_64 ?_)))
      · have := (i_le 6 k rfl rfl (by decide) (by omega)).mp q; omega
      · rw [nI_1]
        exact ih (k + 1) I1 L1 hl (by omega) h1 K
  have p3 : ∀ b d l I L, l + d = S.1.2.1 → Cl I S → (∀ I' L', Cl I' S → XS mL_whole 79 [(0, .ref 0), (1, .long (hk (fun l h => hh (fun w => (oLk S l w).toInt64) h 6) b S.1.2.1))] [] I' L' Q) → XS mL_whole 33 [(0, .ref 0), (1, .long (hk (fun l h => hh (fun w => (oLk S l w).toInt64) h 6) b l)), (3, .int (nI l))] [] I L Q := by
    intro b d
    induction d with
    | zero =>
      intro l I L hl h K
      refine bL_whole_33 (k_count 1 rfl (by decide) h (fun I1 L1 h1 => bL_whole_39 (fun _ => ?_) (fun q => absurd ((i_le S.1.2.1 l rfl rfl (by omega) (by omega)).mpr (by omega)) q)))
      rw [show l = S.1.2.1 by omega]
      exact K I1 L1 h1
    | succ d ih =>
      intro l I L hl h K
      refine bL_whole_33 (k_count 1 rfl (by decide) h (fun I1 L1 h1 => bL_whole_39 (fun q => ?_) (fun _ => bL_whole_42 (p2 l _ 6 0 I1 L1 (by omega) rfl h1 (fun I2 L2 h2 => bL_whole_73 ?_)))))
      · have := (i_le S.1.2.1 l rfl rfl (by omega) (by omega)).mp q; omega
      · rw [nI_1]
        exact ih (l + 1) I2 L2 (by omega) h2 K
  -- what is seen
  have p4 : ∀ b d u I L, u + d = S.1.1 → Cl I S → (∀ I' L', Cl I' S → XS mL_whole 109 [(0, .ref 0), (1, .long (hh (fun u => (nI (S.1.2.2.2.2.2.2.2 u)).toInt64) b S.1.1))] [] I' L' Q) → XS mL_whole 81 [(0, .ref 0), (1, .long (hh (fun u => (nI (S.1.2.2.2.2.2.2.2 u)).toInt64) b u)), (3, .int (nI u))] [] I L Q := by
    intro b d
    induction d with
    | zero =>
      intro u I L hu h K
      refine bL_whole_81 (k_count 0 rfl (by decide) h (fun I1 L1 h1 => bL_whole_87 (fun _ => ?_) (fun q => absurd ((i_le S.1.1 u rfl rfl (by omega) (by omega)).mpr (by omega)) q)))
      rw [show u = S.1.1 by omega]
      exact K I1 L1 h1
    | succ d ih =>
      intro u I L hu h K
      refine bL_whole_81 (k_count 0 rfl (by decide) h (fun I1 L1 h1 => bL_whole_87 (fun q => ?_) (fun _ => bL_whole_90 (k_seen u rfl (by omega) h1 (fun I2 L2 h2 => bL_whole_100 ?_)))))
      · have := (i_le S.1.1 u rfl rfl (by omega) (by omega)).mp q; omega
      · rw [nI_1]
        exact ih (u + 1) I2 L2 (by omega) h2 K
  -- the list
  have p5 : ∀ b d k I L, k + d = (sF S).length → Cl I S → (∀ I' L', Cl I' S → XS mL_whole 152 [(0, .ref 0), (1, .long (hk (fun k h => 31 * h + 100 * (oSg S k 0).toInt64 + (oSg S k 1).toInt64) b (sF S).length))] [] I' L' Q) → XS mL_whole 111 [(0, .ref 0), (1, .long (hk (fun k h => 31 * h + 100 * (oSg S k 0).toInt64 + (oSg S k 1).toInt64) b k)), (3, .int (nI k))] [] I L Q := by
    intro b d
    induction d with
    | zero =>
      intro k I L hk h K
      refine bL_whole_111 (k_count 4 rfl (by decide) h (fun I1 L1 h1 => bL_whole_117 (fun _ => ?_) (fun q => absurd ((i_le (sF S).length k rfl rfl (by omega) (by omega)).mpr (by omega)) q)))
      rw [show k = (sF S).length by omega]
      exact K I1 L1 h1
    | succ d ih =>
      intro k I L hk h K
      refine bL_whole_111 (k_count 4 rfl (by decide) h (fun I1 L1 h1 => bL_whole_117 (fun q => ?_) (fun _ => bL_whole_120 (k_segment k 0 rfl rfl (by omega) (by decide) h1 (fun I2 L2 h2 => bL_whole_134 (k_segment k 1 rfl rfl (by omega) (by decide) h2 (fun I3 L3 h3 => bL_whole_143 ?_)))))))
      · have := (i_le (sF S).length k rfl rfl (by omega) (by omega)).mp q; omega
      · rw [nI_1]
        exact ih (k + 1) I3 L3 (by omega) h3 K
  refine bL_whole_0 (p1 11 0 I L rfl h (fun I1 L1 h1 => bL_whole_31 (p3 _ _ 0 I1 L1 (Nat.zero_add _) h1 (fun I2 L2 h2 => bL_whole_79 (p4 _ _ 0 I2 L2 (Nat.zero_add _) h2 (fun I3 L3 h3 => bL_whole_109 (p5 _ _ 0 I3 L3 (Nat.zero_add _) h3 (fun I4 L4 h4 => bL_whole_152 ?_))))))))
  refine k_brief (by decide) h4 (fun I5 L5 h5 _ => bL_whole_162 (k_brief (by decide) h5 (fun I6 L6 h6 _ => bL_whole_172 (K I6 L6 h6))))
/-- what undoing and the text don't change -/
theorem hh_congr {f f' : Nat → Int64} {h : Int64} : ∀ n, (∀ k, k < n → f k = f' k) → hh f h n = hh f' h n
  | 0, _ => rfl
  | n + 1, e => by
    show 31 * hh f h n + f n = 31 * hh f' h n + f' n
    rw [hh_congr n (fun k hk => e k (by omega)), e n (by omega)]
theorem oCt_11 {S S' : q_S} (h1 : S'.1 = S.1) (hF : sF S' = sF S) (hW : sW S' = sW S) (hP : sP S' = sP S) (hL : sL S' = sL S) : ∀ k, k < 11 → oCt S' k = oCt S k := by
  obtain ⟨a1, a2, a3, a4, a5, a6, a7, a8⟩ := S
  obtain ⟨b1, b2, b3, b4, b5, b6, b7, b8⟩ := S'
  dsimp only at h1 hF hW hP hL
  subst h1; subst hF; subst hW; subst hP; subst hL
  intro k hk
  rcases (show k = 0 ∨ k = 1 ∨ k = 2 ∨ k = 3 ∨ k = 4 ∨ k = 5 ∨ k = 6 ∨ k = 7 ∨ k = 8 ∨ k = 9 ∨ k = 10 by omega) with rfl | rfl | rfl | rfl | rfl | rfl | rfl | rfl | rfl | rfl | rfl <;> rfl
theorem hW_same {S S' : q_S} (h1 : S'.1 = S.1) (hF : sF S' = sF S) (hw : sW S' = sW S) (hP : sP S' = sP S) (hL : sL S' = sL S) : hW S' = hW S := by
  have e := hh_congr (h := 31) 11 (fun k hk => congrArg Int32.toInt64 (oCt_11 h1 hF hw hP hL k hk))
  have eb : ∀ x, oBr S' x = oBr S x := fun x => by
    unfold oBr q_BA
    rw [h1, hw]
  have el : ∀ l w, oLk S' l w = oLk S l w := fun l w => by
    unfold oLk
    rw [h1, hL]
  have es : ∀ k w, oSg S' k w = oSg S k w := fun k w => by
    unfold oSg
    rw [hF]
  unfold hW
  simp only [e, eb, el, es]
  rw [h1, hF]
theorem hW_uA (S : q_S) (p : Nat × (Nat → g_H)) : hW (uA S p) = hW S := hW_same rfl rfl rfl rfl rfl
theorem hW_uT (S : q_S) (t : List Nat) : hW (uT S t) = hW S := hW_same rfl rfl rfl rfl rfl
theorem lg_self (x : Int64) : lg_cmp x x = 0 := by
  unfold lg_cmp
  simp
