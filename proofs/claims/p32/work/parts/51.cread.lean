/-! ===== the class reads numbers, signs, words; pairs as bits ===== -/
def g_num (T : Nat → Nat) (p e a b : Nat) : Option Nat := if e = p + 1 ∧ 48 + a ≤ T p ∧ T p ≤ 48 + b then some (T p - 48) else none
theorem i_n48 : ∀ x, x < 256 → ∀ a, a < 10 → (nI x - 48 < nI a ↔ x < 48 + a) ∧ (nI a < nI x - 48 ↔ 48 + a < x) := by decide +kernel
theorem c_readNumber {T : Nat → Nat} {len i a b : Nat} {I : Nat → Nat → Int32} {L : Nat → Int64} {Q : Option Value → (Nat → Nat → Int32) → (Nat → Int64) → Prop} (hT : cT I T len) (hi : i ≤ len) (he : I 518 0 = nI i) (ha : a < 10) (hb : b < 10) (K : ∀ I', Sm [517, 518] I I' → cTk I' (g_skip T len i) (g_tend T len (g_skip T len i)) → Q (some (.int (i_o (g_num T (g_skip T len i) (g_tend T len (g_skip T len i)) a b)))) I' L) : XS mX8_readNumber 0 [(0, .ref 8), (1, .int (nI a)), (2, .int (nI b))] [] I L Q := by
  have hl := hT.2.1
  have hs := g_skip_le (T := T) hi
  refine bX8_readNumber_0 (c_readToken hT hi he (fun I1 s1 hk => ?_))
  have K' := K I1 s1 hk
  generalize g_skip T len i = p at hs hk K'
  have ht := g_tend_le (T := T) hs.2
  generalize g_tend T len p = e at ht hk K'
  have hT1 : cT I1 T len := hT.sm s1 (by decide) (by decide)
  have hd : I1 518 0 - I1 517 0 = nI (e - p) := by
    rw [show I1 518 0 = nI e from hk.2, show I1 517 0 = nI p from hk.1]; exact i_sub ht.1
  have hp1 : I1 517 0 = nI p := hk.1
  refine bX8_readNumber_4 (fun h => ?_) (fun h => bX8_readNumber_17 ?_)
  · rw [hd] at h
    have he1 := (i_eq (e - p) 1 rfl rfl (by omega) (by decide)).mp h
    have hx := hT1.2.2 p (by omega)
    have hx1 : I1 576 p = nI (T p) := hx.1
    have hc := i_n48 (T p) hx.2
    refine bX8_readNumber_19 (by rw [hp1]; exact vp_in_nI (by omega) (by decide)) (fun h2 => bX8_readNumber_46 (bX8_readNumber_47 ?_)) (fun h2 => bX8_readNumber_37 (fun h3 => bX8_readNumber_46 (bX8_readNumber_47 ?_)) (fun h3 => bX8_readNumber_42 (bX8_readNumber_47 ?_)))
    · rw [hp1, nI_clamp (by omega), hx1, (hc a ha).1] at h2
      unfold g_num at K'
      rw [if_neg (by omega)] at K'
      exact K'
    · rw [hp1, nI_clamp (by omega), hx1, (hc b hb).2] at h3
      unfold g_num at K'
      rw [if_neg (by omega)] at K'
      exact K'
    · rw [hp1, nI_clamp (by omega), hx1, (hc a ha).1] at h2
      rw [hp1, nI_clamp (by omega), hx1, (hc b hb).2] at h3
      unfold g_num at K'
      rw [if_pos (by omega)] at K'
      rw [hp1, nI_clamp (by omega), hx1, show nI (T p) - (48 : Int32) = nI (T p - 48) from i_sub (a := T p) (b := 48) (by omega)]
      exact K'
  · rw [hd] at h
    have he1 : ¬ e - p = 1 := fun q => h (by rw [q]; rfl)
    unfold g_num at K'
    rw [if_neg (by omega)] at K'
    exact K'
def wl (i : Nat) : Nat := ([5, 4] : List Nat).getD i 0
def wd (i j : Nat) : Nat := (([[110, 111, 100, 101, 115], [108, 105, 110, 107]] : List (List Nat)).getD i []).getD j 0
theorem w_char : ∀ i, i < 2 → ∀ j, j < 5 → ((((([[110, 111, 100, 101, 115], [108, 105, 110, 107]] : List (List Int32)).getD i []).getD (nI j).toNatClampNeg 0) &&& (255 : Int32)).toUInt32 % 65536).toInt32 = nI (wd i j) := by decide +kernel
theorem w_narrow {x : Nat} (hx : x < 256) : narrow .char (.int (nI x)) = .int (nI x) := by
  have : ∀ x, x < 256 → ((nI x).toUInt32 % 65536).toInt32 = nI x := by decide +kernel
  first
  | (show Value.int (((nI x).toUInt32 % 65536).toInt32) = _; rw [this x hx])
  | (simp only [narrow]; rw [this x hx])
theorem wd_lt : ∀ i, i < 2 → ∀ j, j < 5 → wd i j < 256 := by decide
theorem wl_le : ∀ i, i < 2 → wl i ≤ 5 ∧ 0 < wl i := by decide
theorem c_strlen {i : Nat} {I : Nat → Nat → Int32} {L : Nat → Int64} {Q : Option Value → (Nat → Nat → Int32) → (Nat → Int64) → Prop} (hi : i < 2) (K : Q (some (.int (nI (wl i)))) I L) : XS mJ0_length_8abf5 0 [(0, .ref (1000000 + i))] [] I L Q := by
  refine bJ0_length_8abf5_0 hi (bJ0_coder_7d493_0 hi (fun h => absurd h (by decide)) (fun _ => bJ0_coder_7d493_6 hi (bJ0_coder_7d493_14 rfl (bJ0_length_8abf5_9 ?_))))
  have : ∀ i, i < 2 → (Int32.ofNat (([5, 4] : List Nat).getD i 0)) >>> ((0 : Int32) &&& 31) = nI (wl i) := by decide +kernel
  rw [this i hi]
  exact K
theorem c_charAt {i j : Nat} {I : Nat → Nat → Int32} {L : Nat → Int64} {Q : Option Value → (Nat → Nat → Int32) → (Nat → Int64) → Prop} (hi : i < 2) (hj : j < wl i) (K : Q (some (.int (nI (wd i j)))) I L) : XS mJ0_charAt_5068e 0 [(0, .ref (1000000 + i)), (1, .int (nI j))] [] I L Q := by
  have hw := wl_le i hi
  have hc := w_char i hi j (by omega)
  have hn := w_narrow (wd_lt i hi j (by omega))
  refine bJ0_charAt_5068e_0 hi (bJ0_isLatin1_aae02_0 hi (fun h => absurd h (by decide)) (fun _ => bJ0_isLatin1_aae02_6 hi (fun h => absurd rfl h) (fun _ => bJ0_isLatin1_aae02_13 (bJ0_isLatin1_aae02_18 (Or.inr rfl) (bJ0_charAt_5068e_4 hi (fun h => absurd h (by decide)) (fun _ => bJ0_charAt_5068e_7 hi (bJ1_charAt_3b067_0 hi ?_)))))))
  refine bJ0_checkIndex_df160_0 (fun v2 => bJ3_checkIndex_8e157_0 (fun h => absurd rfl (i_neg h (a := j) (by omega))) (fun _ => bJ3_checkIndex_8e157_4 (fun _ => bJ3_checkIndex_8e157_16 (bJ0_checkIndex_df160_8 (bJ1_charAt_3b067_6 hi (show vp_in (nI j) (wl i) from vp_in_nI hj (by omega)) (by rw [hc]; exact hn) ?_))) (fun h => absurd ((nI_ltI (a := j) (b := wl i) (by omega) (by omega)).mpr hj) h)))
  rw [hc]
  exact bJ0_charAt_5068e_15 hn K
def g_isw (T : Nat → Nat) (p e i : Nat) : Bool := decide (e = p + wl i ∧ ∀ j, j < wl i → T (p + j) = wd i j)
theorem c_isWord {T : Nat → Nat} {len p e i : Nat} {I : Nat → Nat → Int32} {L : Nat → Int64} {Q : Option Value → (Nat → Nat → Int32) → (Nat → Int64) → Prop} (hi2 : i < 2) (hT : cT I T len) (hpe : p ≤ e) (hel : e ≤ len) (hk : cTk I p e) (K : Q (some (.int (i_b (g_isw T p e i)))) I L) : XS mX8_isWord 0 [(0, .ref 8), (1, .ref (1000000 + i))] [] I L Q := by
  have hl := hT.2.1
  have hw := wl_le i hi2
  have hd : I 518 0 - I 517 0 = nI (e - p) := by
    rw [show I 518 0 = nI e from hk.2, show I 517 0 = nI p from hk.1]; exact i_sub hpe
  have hp1 : I 517 0 = nI p := hk.1
  refine bX8_isWord_0 hi2 (c_strlen hi2 (bX8_isWord_13 hi2 (fun h => ?_) (fun h => bX8_isWord_16 ?_)))
  · rw [hd, nI_eq (by omega) (by omega)] at h
    have loop : ∀ k j, j + k = wl i → (∀ x, x < j → T (p + x) = wd i x) → XS mX8_isWord 20 [(0, .ref 8), (1, .ref (1000000 + i)), (2, .int (nI j))] [] I L Q := by
      intro k
      induction k with
      | zero =>
        intro j hj hx
        refine bX8_isWord_20 hi2 (c_strlen hi2 (bX8_isWord_25 hi2 (fun _ => bX8_isWord_55 ?_) (fun h2 => absurd ((nI_leI (by omega) (by omega)).mpr (by omega)) h2)))
        have : g_isw T p e i = true := decide_eq_true ⟨by omega, fun x hxx => hx x (by omega)⟩
        rw [this] at K; exact K
      | succ k ih =>
        intro j hj hx
        have hy := hT.2.2 (p + j) (by omega)
        have hy1 : I 576 (p + j) = nI (T (p + j)) := hy.1
        have hix : I 517 0 + nI j = nI (p + j) := by rw [hp1, nI_add]
        have hwd := wd_lt i hi2 j (by omega)
        refine bX8_isWord_20 hi2 (c_strlen hi2 (bX8_isWord_25 hi2 (fun h2 => ?_) (fun _ => bX8_isWord_28 hi2 (by rw [hix]; exact vp_in_nI (by omega) (by decide)) (c_charAt hi2 (by omega) (bX8_isWord_44 hi2 (fun h3 => bX8_isWord_49 hi2 ?_) (fun h3 => bX8_isWord_47 ?_))))))
        · rw [nI_leI (by omega) (by omega)] at h2; omega
        · rw [hix, nI_clamp (by omega), hy1, nI_eq (by omega) (by omega)] at h3
          rw [nI_1]
          refine ih (j + 1) (by omega) (fun x hxj => ?_)
          by_cases hxe : x = j
          · subst hxe; exact h3
          · exact hx x (by omega)
        · rw [hix, nI_clamp (by omega), hy1, nI_eq (by omega) (by omega)] at h3
          have : g_isw T p e i = false := decide_eq_false (fun q => h3 (q.2 j (by omega)))
          rw [this] at K; exact K
    exact bX8_isWord_18 hi2 (loop (wl i) 0 (by omega) (fun x hx => by omega))
  · rw [hd, nI_eq (by omega) (by omega)] at h
    have : g_isw T p e i = false := decide_eq_false (fun q => h (by omega))
    rw [this] at K; exact K
theorem c_readSign {T : Nat → Nat} {len i s : Nat} {I : Nat → Nat → Int32} {L : Nat → Int64} {Q : Option Value → (Nat → Nat → Int32) → (Nat → Int64) → Prop} (hT : cT I T len) (hi : i ≤ len) (he : I 518 0 = nI i) (hs : s < 256) (K : ∀ I' b, Sm [517, 518] I I' → cTk I' (g_skip T len i) (g_tend T len (g_skip T len i)) → (b = true ↔ g_tend T len (g_skip T len i) = g_skip T len i + 1 ∧ T (g_skip T len i) = s) → Q (some (.int (i_b b))) I' L) : XS mX8_readSign 0 [(0, .ref 8), (1, .int (nI s))] [] I L Q := by
  have hl := hT.2.1
  have hsk := g_skip_le (T := T) hi
  refine bX8_readSign_0 (c_readToken hT hi he (fun I1 s1 hk => ?_))
  have K' := fun b => K I1 b s1 hk
  generalize g_skip T len i = p at hsk hk K'
  have ht := g_tend_le (T := T) hsk.2
  generalize g_tend T len p = e at ht hk K'
  have hT1 : cT I1 T len := hT.sm s1 (by decide) (by decide)
  have hd : I1 518 0 - I1 517 0 = nI (e - p) := by
    rw [show I1 518 0 = nI e from hk.2, show I1 517 0 = nI p from hk.1]; exact i_sub ht.1
  have hp1 : I1 517 0 = nI p := hk.1
  refine bX8_readSign_4 (fun h => bX8_readSign_34 (bX8_readSign_35 (Or.inl rfl) (K' false ⟨fun q => (by cases q), fun q => ?_⟩))) (fun h => ?_)
  · rw [hd] at h
    exact absurd (by rw [show e - p = 1 by omega]; rfl) h
  · rw [hd] at h
    have he1 := (i_eq (e - p) 1 rfl rfl (by omega) (by decide)).mp h
    have hx := hT1.2.2 p (by omega)
    have hx1 : I1 576 p = nI (T p) := hx.1
    refine bX8_readSign_17 (by rw [hp1]; exact vp_in_nI (by omega) (by decide)) (fun h2 => bX8_readSign_34 (bX8_readSign_35 (Or.inl rfl) (K' false ⟨fun q => (by cases q), fun q => ?_⟩))) (fun h2 => bX8_readSign_30 (bX8_readSign_35 (Or.inr rfl) (K' true ⟨fun _ => ⟨by omega, ?_⟩, fun _ => rfl⟩)))
    · rw [hp1, nI_clamp (by omega), hx1, nI_eq (by omega) (by omega)] at h2
      exact absurd q.2 h2
    · rw [hp1, nI_clamp (by omega), hx1, nI_eq (by omega) (by omega)] at h2
      exact h2
/-- pairs of nodes as the bits of a long -/
def g_prs (x : Nat) (E : List (Nat × Nat)) : Prop := x < 2 ^ 64 ∧ (∀ a b, a < 8 → b < 8 → (x.testBit (8 * a + b) = true ↔ (a, b) ∈ E)) ∧ g_pc 64 x = E.length
def cPr (L : Nat → Int64) (E : List (Nat × Nat)) : Prop := ∃ x, L 520 = nJ x ∧ g_prs x E
def g_pr (u v : Nat) : Nat × Nat := (min u v, max u v)
def g_ad (E : List (Nat × Nat)) (p : Nat × Nat) : List (Nat × Nat) := if p ∈ E then E else E ++ [p]
theorem g_prs_0 : g_prs 0 [] := ⟨by decide, fun a b _ _ => by simp, by rw [g_pc_0]; rfl⟩
theorem g_prs_ad {x : Nat} {E : List (Nat × Nat)} {a b : Nat} (ha : a < 8) (hb : b < 8) (h : g_prs x E) : g_prs (x ||| 2 ^ (8 * a + b)) (g_ad E (a, b)) := by
  obtain ⟨h1, h2, h3⟩ := h
  refine ⟨g_or_lt h1 (by omega), fun c d hc hd => ?_, ?_⟩
  · rw [g_or_bit]
    simp only [Bool.or_eq_true, decide_eq_true_eq]
    rw [h2 c d hc hd]
    unfold g_ad
    split
    · rename_i hm
      constructor
      · rintro (q | q)
        · exact q
        · have e1 : a = c := by omega
          have e2 : b = d := by omega
          subst e1; subst e2; exact hm
      · exact fun q => Or.inl q
    · rw [List.mem_append, List.mem_singleton, Prod.mk.injEq]
      constructor
      · rintro (q | q)
        · exact Or.inl q
        · exact Or.inr ⟨by omega, by omega⟩
      · rintro (q | ⟨q, q'⟩)
        · exact Or.inl q
        · exact Or.inr (by omega)
  · unfold g_ad
    split
    · rename_i hm
      have hbit := (h2 a b ha hb).mpr hm
      rw [g_or_self.mpr hbit]; exact h3
    · rename_i hm
      have hbit : x.testBit (8 * a + b) = false := by
        cases hq : x.testBit (8 * a + b) with
        | false => rfl
        | true => exact absurd ((h2 a b ha hb).mp hq) hm
      rw [g_pc_cnt, g_cnt_or (by omega) hbit, ← g_pc_cnt, h3]
      simp
theorem j_shl : ∀ j, j < 64 → (1 : Int64) <<< ((nI j).toInt64 &&& 63) = nJ (2 ^ j) := by decide +kernel
theorem c_pairOf {u v : Nat} {I : Nat → Nat → Int32} {L : Nat → Int64} {Q : Option Value → (Nat → Nat → Int32) → (Nat → Int64) → Prop} (hu : u < 8) (hv : v < 8) (K : Q (some (.long (nJ (2 ^ (8 * (g_pr u v).1 + (g_pr u v).2))))) I L) : XS mX2_pairOf 0 [(0, .int (nI u)), (1, .int (nI v))] [] I L Q := by
  refine bX2_pairOf_0 ?_
  have e1 : (if nI v < nI u then nI v else nI u) = nI (min u v) := by
    by_cases h : v < u
    · rw [if_pos ((nI_ltI (by omega) (by omega)).mpr h), Nat.min_eq_right (by omega)]
    · rw [if_neg (fun q => h ((nI_ltI (by omega) (by omega)).mp q)), Nat.min_eq_left (by omega)]
  have e2 : (if nI u < nI v then nI v else nI u) = nI (max u v) := by
    by_cases h : u < v
    · rw [if_pos ((nI_ltI (by omega) (by omega)).mpr h), Nat.max_eq_right (by omega)]
    · rw [if_neg (fun q => h ((nI_ltI (by omega) (by omega)).mp q)), Nat.max_eq_left (by omega)]
  rw [e1, e2, i_mul8, nI_add, j_shl _ (by omega)]
  have : min u v * 8 + max u v = 8 * (g_pr u v).1 + (g_pr u v).2 := by
    show min u v * 8 + max u v = 8 * min u v + max u v
    omega
  rw [this]
  exact K
theorem nJ_0 {y : Nat} (hy : y < 2 ^ 64) : nJ y = 0 ↔ y = 0 := by
  constructor
  · intro h
    have := congrArg (fun z : Int64 => z.toBitVec.toNat) h
    have e : (nJ y).toBitVec.toNat = y % 2 ^ 64 := by
      show (BitVec.ofNat 64 y).toNat = y % 2 ^ 64
      rw [BitVec.toNat_ofNat]
    have e2 : ((0 : Int64)).toBitVec.toNat = 0 := by decide
    have h' : (nJ y).toBitVec.toNat = ((0 : Int64)).toBitVec.toNat := this
    rw [e, e2] at h'
    omega
  · rintro rfl; rfl
theorem lg_cmp0 {x : Int64} : lg_cmp x 0 = 0 ↔ x = 0 := by
  unfold lg_cmp
  constructor
  · intro h
    split at h
    · exact absurd h (by decide)
    · split at h
      · assumption
      · exact absurd h (by decide)
  · rintro rfl
    decide
theorem g_and_bit0 {x k : Nat} : x &&& 2 ^ k = 0 ↔ x.testBit k = false := by
  constructor
  · intro h
    have : (x &&& 2 ^ k).testBit k = false := by rw [h]; simp
    rw [Nat.testBit_and, Nat.testBit_two_pow] at this
    simpa using this
  · intro h
    apply Nat.eq_of_testBit_eq
    intro i
    rw [Nat.testBit_and, Nat.testBit_two_pow]
    by_cases hi : k = i
    · subst hi; simp [h]
    · simp [hi]
theorem c_isTooMany {a b : Nat} {E : List (Nat × Nat)} {I : Nat → Nat → Int32} {L : Nat → Int64} {Q : Option Value → (Nat → Nat → Int32) → (Nat → Int64) → Prop} (ha : a < 8) (hb : b < 8) (hE : E.length ≤ 14) (hP : cPr L E) (K : Q (some (.int (i_b (decide ((a, b) ∉ E ∧ 14 ≤ E.length))))) I L) : XS mX8_isTooMany 0 [(0, .ref 8), (1, .long (nJ (2 ^ (8 * a + b))))] [] I L Q := by
  obtain ⟨x, hx, h1, h2, h3⟩ := hP
  have hx' : L 520 = nJ x := hx
  have hlt : x &&& 2 ^ (8 * a + b) < 2 ^ 64 := Nat.lt_of_le_of_lt Nat.and_le_left h1
  have hz : x &&& 2 ^ (8 * a + b) = 0 ↔ (a, b) ∉ E := by
    rw [← h2 a b ha hb, g_and_bit0]
    simp
  refine bX8_isTooMany_0 (fun h => bX8_isTooMany_27 (bX8_isTooMany_28 (Or.inl rfl) ?_)) (fun h => bX8_isTooMany_11 ?_)
  · rw [hx', j_and, lg_cmp0, nJ_0 hlt, hz] at h
    rw [decide_eq_false (fun q => h q.1)] at K
    exact K
  · rw [hx', j_and, lg_cmp0, nJ_0 hlt, hz] at h
    rw [hx']
    refine c_bitCountL h1 ?_
    rw [h3]
    refine bX8_isTooMany_18 (fun h4 => bX8_isTooMany_27 (bX8_isTooMany_28 (Or.inl rfl) ?_)) (fun h4 => bX8_isTooMany_23 (bX8_isTooMany_28 (Or.inr rfl) ?_))
    · have := (i_lt _ 14 rfl rfl (by omega) (by decide)).mp h4
      rw [decide_eq_false (fun q => by omega)] at K
      exact K
    · have : ¬ E.length < 14 := fun q => h4 ((i_lt _ 14 rfl rfl (by omega) (by decide)).mpr q)
      rw [decide_eq_true ⟨h, by omega⟩] at K
      exact K
