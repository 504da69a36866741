/-! ===== the reference's order, and that both answer alike ===== -/
def g_sub (x B : Nat) : Prop := ∀ i, x.testBit i = true → B.testBit i = true
theorem g_not_bit {x i : Nat} (hi : i < 32) : (x ^^^ (2 ^ 32 - 1)).testBit i = !x.testBit i := by
  rw [Nat.testBit_xor, Nat.testBit_two_pow_sub_one]
  simp [hi]
theorem i_not (x : Nat) : nI x ^^^ (-1 : Int32) = nI (x ^^^ (2 ^ 32 - 1)) := by rw [i_m1, i_xor]
theorem g_sub_iff {x B : Nat} (hx : x < 2 ^ 8) : x &&& (B ^^^ (2 ^ 32 - 1)) = 0 ↔ g_sub x B := by
  constructor
  · intro h i hi
    have h8 : i < 8 := by
      rcases Nat.lt_or_ge i 8 with q | q
      · exact q
      · have : x.testBit i = false := Nat.testBit_lt_two_pow (Nat.lt_of_lt_of_le hx (Nat.pow_le_pow_right (by omega) q))
        rw [this] at hi; cases hi
    have : (x &&& (B ^^^ (2 ^ 32 - 1))).testBit i = false := by rw [h]; simp
    rw [Nat.testBit_and, g_not_bit (by omega), hi] at this
    simpa using this
  · intro h
    apply Nat.eq_of_testBit_eq
    intro i
    rw [Nat.testBit_and]
    cases hi : x.testBit i with
    | false => simp
    | true =>
      have h8 : i < 8 := by
        rcases Nat.lt_or_ge i 8 with q | q
        · exact q
        · have : x.testBit i = false := Nat.testBit_lt_two_pow (Nat.lt_of_lt_of_le hx (Nat.pow_le_pow_right (by omega) q))
          rw [this] at hi; cases hi
      rw [g_not_bit (by omega), h i hi]; simp
theorem g_sub_or {x B v : Nat} (h : g_sub x B) (hv : B.testBit v = true) : g_sub (x ||| 2 ^ v) B := fun i hi => by
  rw [g_or_bit] at hi
  simp only [Bool.or_eq_true, decide_eq_true_eq] at hi
  rcases hi with hi | rfl
  · exact h i hi
  · exact hv
theorem s_hasNot {B x v : Nat} {I : Nat → Nat → Int32} {L : Nat → Int64} {Q : Option Value → (Nat → Nat → Int32) → (Nat → Int64) → Prop} (hB : B < 256) (hv : v < 31) (K : Q (some (.int (i_b (B.testBit v && !x.testBit v)))) I L) : XS mX10_has 0 [(0, .int (nI B &&& (nI x ^^^ (-1)))), (1, .int (nI v))] [] I L Q := by
  rw [i_not, i_and]
  refine s_has (Nat.lt_of_le_of_lt Nat.and_le_left (by omega)) hv ?_
  rw [Nat.testBit_and, g_not_bit (by omega)]
  exact K
def mCg (I : Nat → Nat → Int32) (sf : Nat → Bool) (n B : Nat) (x : Nat) : Prop := ∀ y, x ≤ y → y < 256 → g_sub y B → I 4416 y = i_b (g_p (g_can sf n B y))
theorem s_laysOrders {n ln U B : Nat} {lo hi c seen : Nat → Nat} {nxU nxS : Nat → Nat → Option Nat} {I : Nat → Nat → Int32} {L : Nat → Int64} {Q : Option Value → (Nat → Nat → Int32) → (Nat → Int64) → Prop} (hG : mG I n ln lo hi) (hN : g_net n ln lo hi) (hC : mC I ln 0 c) (hc : g_cs ln c) (hU : I 3392 28 = nI U) (hU2 : U < 2 ^ 31) (hseen : ∀ u, u < n → I 3392 (29 + u) = nI (seen u) ∧ seen u < 2 ^ 31) (hnxU : nxU = g_nxt (g_e ln lo hi c U) n) (hnxS : nxS = g_nS n ln lo hi c seen) (hB : B < 256)
    (hnx : ∀ M w u v, g_FL nxU nxS M w u = some v → v < n)
    (K : ∀ I', Sm [3712, 4288, 4352, 4416] I I' → mRg I' nxU nxS n → mCg I' (g_safe nxU nxS n) n B 0 → Q none I' L) :
    XS mX10_laysOrders 0 [(0, .ref 49), (1, .int (nI B))] [] I L Q := by
  have hn8 := hN.2.1
  refine bX10_laysOrders_0 (s_laysGoes hG hN hC hc hU hU2 hseen (fun I1 s1 hR1 => bX10_laysOrders_4 ?_))
  rw [← hnxU, ← hnxS] at hR1
  generalize hsf : g_safe nxU nxS n = sf at K
  have kn : ∀ {I' : Nat → Nat → Int32}, Sm [4416] I1 I' → I' 3136 0 = nI n := fun hs => by rw [hs _ (by decide), s1 _ (by decide)]; exact hG.1
  have kR : ∀ {I' : Nat → Nat → Int32}, Sm [4416] I1 I' → mRg I' nxU nxS n := fun hs x w hx hw => by rw [hs _ (by decide), hs _ (by decide)]; exact hR1 x w hx hw
  have sets : ∀ x I', x < 256 → Sm [4416] I1 I' → mCg I' sf n B (x + 1) → (∀ I2, Sm [4416] I1 I2 → mCg I2 sf n B x → XS mX10_laysOrders 119 [(0, .ref 49), (1, .int (nI B)), (2, .int (nI x))] [] I2 L Q) → XS mX10_laysOrders 12 [(0, .ref 49), (1, .int (nI B)), (2, .int (nI x))] [] I' L Q := by
    intro x I' hx hs hcg KK
    -- the loop over the nodes
    have nodes : g_sub x B → ∀ k v b I2, v + k = n → Sm [4416] I1 I2 → mCg I2 sf n B (x + 1) → I2 4416 x = i_b b → (b = true ↔ (x = B ∨ ∃ u, u < v ∧ B.testBit u = true ∧ x.testBit u = false ∧ sf (x ||| 2 ^ u) = true ∧ g_can sf n B (x ||| 2 ^ u))) → XS mX10_laysOrders 30 [(0, .ref 49), (1, .int (nI B)), (2, .int (nI x)), (3, .int (nI v))] [] I2 L Q := by
      intro hsub k
      induction k with
      | zero =>
        intro v b I2 hv hs2 hcg2 hb hbi
        refine bX10_laysOrders_30 (fun _ => KK I2 hs2 (fun y hy hy2 hys => ?_)) (fun h => ?_)
        · by_cases hyx : y = x
          · subst hyx
            rw [hb]
            congr 1
            rw [Bool.eq_iff_iff, hbi, g_p_iff, g_can_iff]
            constructor
            · rintro (h | ⟨u, a, b⟩)
              · exact Or.inl h
              · exact Or.inr ⟨u, by omega, b⟩
            · rintro (h | ⟨u, a, b⟩)
              · exact Or.inl h
              · exact Or.inr ⟨u, by omega, b⟩
          · exact hcg2 y (by omega) hy2 hys
        · rw [show I2 3136 0 = nI n from kn hs2, nI_leI (by omega) (by omega)] at h; omega
      | succ k ih =>
        intro v b I2 hv hs2 hcg2 hb hbi
        have hvp : vp_in (nI x) 256 := vp_in_nI hx (by decide)
        have hor : x ||| 2 ^ v < 256 := g_or_lt (n := 8) hx (by omega)
        have put : ∀ r b2, r = i_b b2 → (b2 = true ↔ (x = B ∨ ∃ u, u < v + 1 ∧ B.testBit u = true ∧ x.testBit u = false ∧ sf (x ||| 2 ^ u) = true ∧ g_can sf n B (x ||| 2 ^ u))) → XS mX10_laysOrders 112 [(0, .ref 49), (1, .int (nI B)), (2, .int (nI x)), (3, .int (nI v))] [.int r, .int (nI x), .ref 69] I2 L Q := by
          intro r b2 hr hb2
          refine bX10_laysOrders_112 hvp ?_
          rw [nI_clamp (by omega), nI_1]
          exact ih (v + 1) b2 _ (by omega) (hs2.up (by decide)) (fun y hy hy2 hys => by rw [x_up_off (by omega)]; exact hcg2 y hy hy2 hys) (by rw [x_up_at, hr]) hb2
        have no : (¬ (B.testBit v = true ∧ x.testBit v = false ∧ sf (x ||| 2 ^ v) = true ∧ g_can sf n B (x ||| 2 ^ v))) → XS mX10_laysOrders 89 [(0, .ref 49), (1, .int (nI B)), (2, .int (nI x)), (3, .int (nI v))] [] I2 L Q := by
          intro hno
          refine bX10_laysOrders_89 (bX10_laysOrders_90 (fun _ => bX10_laysOrders_106 hvp ?_) (fun h => absurd rfl h))
          rw [nI_clamp (by omega)]
          refine put _ b hb ?_
          rw [hbi]
          constructor
          · rintro (h | ⟨u, a, b⟩)
            · exact Or.inl h
            · exact Or.inr ⟨u, by omega, b⟩
          · rintro (h | ⟨u, a, b⟩)
            · exact Or.inl h
            · refine Or.inr ⟨u, ?_, b⟩
              by_cases huv : u = v
              · subst huv; exact absurd b hno
              · omega
        refine bX10_laysOrders_30 (fun h => ?_) (fun _ => bX10_laysOrders_38 (fun h => ?_) (fun _ => bX10_laysOrders_46 (s_hasNot hB (by omega) (bX10_laysOrders_62 (fun h => no ?_) (fun h => ?_)))))
        · rw [show I2 3136 0 = nI n from kn hs2, nI_leI (by omega) (by omega)] at h; omega
        · exfalso
          apply h
          rw [i_not, i_and, (g_sub_iff hx).mpr hsub]
          rfl
        · rw [i_b0] at h
          intro q
          rw [q.1, q.2.1] at h
          cases h
        · rw [i_b0] at h
          have h' : B.testBit v = true ∧ x.testBit v = false := by
            simp at h; exact h
          have hlt : x < x ||| 2 ^ v := by
            have h1 : x ≤ x ||| 2 ^ v := Nat.left_le_or
            have h2 : x ||| 2 ^ v ≠ x := fun q => by rw [g_or_self, h'.2] at q; cases q
            omega
          rw [i_1shl (by omega), i_or]
          have hI : I2 4416 (x ||| 2 ^ v) = i_b (g_p (g_can sf n B (x ||| 2 ^ v))) := hcg2 _ (by omega) hor (g_sub_or hsub h'.1)
          refine bX10_laysOrders_65 (vp_in_nI hor (by decide)) (fun h2 => no ?_) (fun h2 => bX10_laysOrders_76 (s_isSafe (nxU := nxU) (nxS := nxS) (kn hs2) hn8 (by omega) (kR hs2) (hnx _) (bX10_laysOrders_82 (fun h3 => no ?_) (fun h3 => ?_))))
          · rw [nI_clamp (by omega), hI, i_b1, g_p_iff] at h2
            exact fun q => h2 q.2.2.2
          · rw [i_b0, hsf] at h3
            intro q
            rw [q.2.2.1] at h3; cases h3
          · rw [nI_clamp (by omega), hI, i_b1, g_p_iff] at h2
            rw [i_b0, hsf] at h3
            refine bX10_laysOrders_85 (bX10_laysOrders_90 (fun h => absurd h (by decide)) (fun _ => bX10_laysOrders_102 ?_))
            exact put 1 true rfl ⟨fun _ => Or.inr ⟨v, by omega, h'.1, h'.2, by simpa using h3, h2⟩, fun _ => rfl⟩
    -- a set that isn't one of those behind
    have other : ¬ g_sub x B → ∀ I2, Sm [4416] I1 I2 → mCg I2 sf n B (x + 1) → XS mX10_laysOrders 30 [(0, .ref 49), (1, .int (nI B)), (2, .int (nI x)), (3, .int (nI 0))] [] I2 L Q := by
      intro hsub I2 hs2 hcg2
      have fin : XS mX10_laysOrders 119 [(0, .ref 49), (1, .int (nI B)), (2, .int (nI x))] [] I2 L Q := KK I2 hs2 (fun y hy hy2 hys => by
        by_cases hyx : y = x
        · subst hyx; exact absurd hys hsub
        · exact hcg2 y (by omega) hy2 hys)
      refine bX10_laysOrders_30 (fun _ => fin) (fun _ => bX10_laysOrders_38 (fun _ => fin) (fun h => ?_))
      exfalso
      rw [i_not, i_and] at h
      have hle : x &&& (B ^^^ (2 ^ 32 - 1)) ≤ x := Nat.and_le_left
      exact hsub ((g_sub_iff hx).mp ((i_eq _ 0 rfl rfl (by omega) (by decide)).mp h))
    have go : ∀ b, (b = true ↔ x = B) → XS mX10_laysOrders 27 [(0, .ref 49), (1, .int (nI B)), (2, .int (nI x))] [.int (i_b b), .int (nI x), .ref 69] I' L Q := by
      intro b hb
      refine bX10_laysOrders_27 (vp_in_nI hx (by decide)) ?_
      rw [nI_clamp (by omega)]
      have hs2 : Sm [4416] I1 (x_up I' 4416 x (i_b b)) := hs.up (by decide)
      have hcg2 : mCg (x_up I' 4416 x (i_b b)) sf n B (x + 1) := fun y hy hy2 hys => by rw [x_up_off (by omega)]; exact hcg y hy hy2 hys
      by_cases hsub : g_sub x B
      · refine nodes hsub n 0 b _ (by omega) hs2 hcg2 (by rw [x_up_at]) ?_
        rw [hb]
        constructor
        · exact fun h => Or.inl h
        · rintro (h | ⟨u, a, _⟩)
          · exact h
          · omega
      · exact other hsub _ hs2 hcg2
    refine bX10_laysOrders_12 (fun h => bX10_laysOrders_26 ?_) (fun h => bX10_laysOrders_22 ?_)
    · rw [nI_eq (by omega) (by omega)] at h
      exact go false ⟨fun q => (by cases q), fun q => absurd q h⟩
    · rw [nI_eq (by omega) (by omega)] at h
      exact go true ⟨fun _ => h, fun _ => rfl⟩
  have down : ∀ x I', x < 256 → Sm [4416] I1 I' → mCg I' sf n B (x + 1) → XS mX10_laysOrders 8 [(0, .ref 49), (1, .int (nI B)), (2, .int (nI x))] [] I' L Q := by
    intro x
    induction x with
    | zero =>
      intro I' hx hs hcg
      refine bX10_laysOrders_8 (fun h => absurd h (by decide)) (fun _ => sets 0 I' hx hs hcg (fun I2 hs2 hcg2 => bX10_laysOrders_119 (bX10_laysOrders_8 (fun _ => bX10_laysOrders_125 (K I2 ((s1.mono (by decide)).tr (hs2.mono (by decide))) (kR hs2) hcg2)) (fun h => absurd (by decide) h))))
    | succ x ih =>
      intro I' hx hs hcg
      refine bX10_laysOrders_8 (fun h => absurd rfl (i_neg h (a := x + 1) (by omega))) (fun _ => sets (x + 1) I' hx hs hcg (fun I2 hs2 hcg2 => bX10_laysOrders_119 ?_))
      rw [pk_m1]
      exact ih I2 (by omega) hs2 hcg2
  exact down 255 I1 (by omega) Sm.rf (fun y hy hy2 => by omega)
/-- the answer to an order -/
def g_OA (sf : Nat → Bool) (n B : Nat) (x r : Int32) : Prop := (x < -1 ∧ r = -3) ∨ (¬ x < -1 ∧ ¬ g_can sf n B 0 ∧ r = -4) ∨ (g_can sf n B 0 ∧ x = -1 ∧ r = nI (g_pc n B)) ∨ ∃ k, k < 2 ^ 31 ∧ x = nI k ∧ g_can sf n B 0 ∧ ((g_pc n B ≤ k ∧ r = -1) ∨ (k < g_pc n B ∧ ∃ o S, g_ord sf n B (k + 1) o S ∧ r = nI (o k)))
theorem g_OA_uni {sf : Nat → Bool} {n B : Nat} {x r r' : Int32} (h : g_OA sf n B x r) (h' : g_OA sf n B x r') : r = r' := by
  have hk : ∀ k, k < 2 ^ 31 → x = nI k → ¬ x < -1 ∧ x ≠ -1 := fun k hk hx => by
    subst hx
    refine ⟨fun q => ?_, i_m1ne hk⟩
    have h1 := i_m1lt hk
    rw [Int32.lt_iff_toInt_lt] at q h1
    omega
  have hm1 : ∀ (y : Int32), y = -1 → ¬ y < -1 := fun y hy => by subst hy; decide
  rcases h with ⟨a, b⟩ | ⟨a, b, c⟩ | ⟨a, b, c⟩ | ⟨k, a, b, c, d⟩ <;> rcases h' with ⟨a', b'⟩ | ⟨a', b', c'⟩ | ⟨a', b', c'⟩ | ⟨k', a', b', c', d'⟩
  · rw [b, b']
  · exact absurd a a'
  · exact absurd a (hm1 x b')
  · exact absurd a (hk k' a' b').1
  · exact absurd a' a
  · rw [c, c']
  · exact absurd a' b
  · exact absurd c' b
  · exact absurd a' (hm1 x b)
  · exact absurd a b'
  · rw [c, c']
  · exact absurd b (hk k' a' b').2
  · exact absurd a' (hk k a b).1
  · exact absurd c b'
  · exact absurd b' (hk k a b).2
  · have : k = k' := (nI_eq a a').mp (b.symm.trans b')
    subst this
    rcases d with ⟨e, f⟩ | ⟨e, o, S, f, g⟩
    · rcases d' with ⟨e', f'⟩ | ⟨e', _⟩
      · rw [f, f']
      · omega
    · rcases d' with ⟨e', f'⟩ | ⟨e', o', S', f', g'⟩
      · omega
      · rw [g, g', (g_ord_uni f f' k (by omega) (by omega)).2 (by omega) (by omega)]
theorem i_ge_m1 {x : Int32} : ((-1 : Int32) ≤ x) ↔ ¬ x < -1 := by
  rw [Int32.le_iff_toInt_le, Int32.lt_iff_toInt_lt]
  omega
theorem i_ge0 {x : Int32} (h : ¬ x < -1) (h1 : x ≠ -1) : ∃ k, k < 2 ^ 31 ∧ x = nI k := by
  rcases i_cases x with q | q
  · exfalso
    rw [Int32.lt_iff_toInt_lt] at h q
    rw [show (0 : Int32).toInt = 0 from rfl] at q
    rw [show (-1 : Int32).toInt = -1 from rfl] at h
    exact h1 (Int32.toInt_inj.mp (by rw [show (-1 : Int32).toInt = -1 from rfl]; omega))
  · exact q
theorem g_bh_lt {n U : Nat} {seen : Nat → Nat} (hn8 : n ≤ 8) : g_bh n U seen < 2 ^ n ∧ g_bh n U seen < 256 := by
  have h1 := g_mk_lt (fun u => decide (seen u ≠ U)) n
  have h2 := g_2n hn8
  unfold g_bh
  omega
theorem c_order {n ln U : Nat} {lo hi c seen : Nat → Nat} {x : Int32} {I : Nat → Nat → Int32} {L : Nat → Int64} {Q : Option Value → (Nat → Nat → Int32) → (Nat → Int64) → Prop} (hG : cG I n ln lo hi) (hN : g_net n ln lo hi) (hC : cC I ln 0 c) (hc : g_cs ln c) (hU : I 66 0 = nI U) (hU2 : U < 2 ^ 31) (hseen : ∀ u, u < n → I 448 u = nI (seen u) ∧ seen u < 2 ^ 31)
    (K : ∀ I' r, Sm [1088, 1152, 1216, 1408, 1344, 1472, 1600, 1537] I I' → g_OA (g_safe (g_nxt (g_e ln lo hi c U) n) (g_nS n ln lo hi c seen) n) n (g_bh n U seen) x r → Q (some (.int r)) I' L) :
    XS mX9_order 0 [(0, .ref 0), (1, .int x)] [] I L Q := by
  refine bX9_order_0 (fun h => bX9_order_8 (c_findOrder hG hN hC hc hU hU2 hseen rfl rfl (fun I' d o S s1 hl hd8 hq hord hSd hdpc => bX9_order_15 (fun h => absurd h (by decide)) (fun _ => bX9_order_18 ?_)) (fun I' s1 hno => bX9_order_15 (fun _ => bX9_order_32 (bX9_order_34 (K I' _ s1 (Or.inr (Or.inl ⟨i_ge_m1.mp h, hno, rfl⟩))))) (fun h => absurd rfl h)))) (fun h => bX9_order_5 (K I _ Sm.rf (Or.inl ⟨?_, rfl⟩)))
  · have hcan : ∀ j i, i + j = d → g_can (g_safe (g_nxt (g_e ln lo hi c U) n) (g_nS n ln lo hi c seen) n) n (g_bh n U seen) (S i) := by
      intro j
      cases j with
      | zero => intro i hi; rw [show i = d by omega, hSd]; exact ⟨0, rfl⟩
      | succ j =>
        intro i hi
        obtain ⟨_, c2, _⟩ := hord.2 i (by omega)
        exact g_can_iff.mpr (Or.inr ⟨o i, c2⟩)
    have hc0 := hcan d 0 (by omega)
    rw [hord.1] at hc0
    refine c_rtold k_order hl hd8 (bX9_order_29 (bX9_order_34 (K I' _ s1 ?_)))
    by_cases hx1 : x = -1
    · refine Or.inr (Or.inr (Or.inl ⟨hc0, hx1, ?_⟩))
      unfold g_told
      rw [if_pos hx1, hdpc]
    · obtain ⟨k, hk, rfl⟩ := i_ge0 (i_ge_m1.mp h) hx1
      refine Or.inr (Or.inr (Or.inr ⟨k, hk, rfl, hc0, ?_⟩))
      unfold g_told
      rw [if_neg hx1]
      by_cases hkd : k < d
      · rw [if_pos ((g_is_iff (by omega)).mpr ⟨k, hkd, rfl⟩), nI_clamp hk, hq k hkd]
        exact Or.inr ⟨by omega, o, S, ⟨hord.1, fun i hi => hord.2 i (by omega)⟩, rfl⟩
      · refine Or.inl ⟨by omega, ?_⟩
        rw [if_neg]
        intro q
        obtain ⟨a, ha, e⟩ := (g_is_iff (by omega)).mp q
        have := (nI_eq hk (by omega)).mp e
        omega
  · rw [i_ge_m1] at h
    exact Classical.not_not.mp h
theorem s_order {n ln U : Nat} {lo hi c seen : Nat → Nat} {x : Int32} {I : Nat → Nat → Int32} {L : Nat → Int64} {Q : Option Value → (Nat → Nat → Int32) → (Nat → Int64) → Prop} (hG : mG I n ln lo hi) (hN : g_net n ln lo hi) (hC : mC I ln 0 c) (hc : g_cs ln c) (hU : I 3392 28 = nI U) (hU2 : U < 2 ^ 31) (hseen : ∀ u, u < n → I 3392 (29 + u) = nI (seen u) ∧ seen u < 2 ^ 31)
    (K : ∀ I' r, Sm [3712, 4288, 4352, 4416] I I' → g_OA (g_safe (g_nxt (g_e ln lo hi c U) n) (g_nS n ln lo hi c seen) n) n (g_bh n U seen) x r → Q (some (.int r)) I' L) :
    XS mX10_order 0 [(0, .ref 49), (1, .int x)] [] I L Q := by
  have hn8 := hN.2.1
  have hBl := g_bh_lt (n := n) (U := U) (seen := seen) hn8
  have hnx : ∀ M w u v, g_FL (g_nxt (g_e ln lo hi c U) n) (g_nS n ln lo hi c seen) M w u = some v → v < n := fun M w u v h => by
    unfold g_FL at h
    split at h
    · exact (g_nxt_some (g_e_ok hN hc U) h).1
    · exact (g_nxt_some (g_e_ok hN hc (seen u)) h).1
  refine bX10_order_0 (fun h => bX10_order_8 (s_behind hG.1 hn8 hU hU2 hseen (bX10_order_12 (s_laysOrders hG hN hC hc hU hU2 hseen rfl rfl hBl.2 hnx (fun I1 s1 hR hcg => bX10_order_18 ?_ ?_))))) (fun h => bX10_order_5 (K I _ Sm.rf (Or.inl ⟨?_, rfl⟩)))
  · -- there is an order
    intro hne
    have e0 : I1 4416 0 = _ := hcg 0 (by omega) (by omega) (fun i hi => by simp at hi)
    rw [e0, i_b0] at hne
    have hc0 : g_can (g_safe (g_nxt (g_e ln lo hi c U) n) (g_nS n ln lo hi c seen) n) n (g_bh n U seen) 0 := g_p_iff.mp (by simpa using hne)
    have hn1 : I1 3136 0 = nI n := by rw [s1 _ (by decide)]; exact hG.1
    generalize hBd : g_bh n U seen = B at K hBl hcg hc0
    refine bX10_order_30 (fun hx1 => bX10_order_40 ?_) (fun hx1 => bX10_order_35 (s_ones hBl.1 (by omega) (bX10_order_39 (K I1 _ s1 (Or.inr (Or.inr (Or.inl ⟨hc0, hx1, rfl⟩)))))))
    obtain ⟨k, hk, rfl⟩ := i_ge0 (i_ge_m1.mp h) hx1
    generalize hnxU : (g_nxt (g_e ln lo hi c U) n) = nxU at hR hcg hc0 K hnx
    generalize hnxS : (g_nS n ln lo hi c seen) = nxS at hR hcg hc0 K hnx
    generalize hsf : g_safe nxU nxS n = sf at hcg hc0 K
    have fin : ∀ v4 : Int32, (g_pc n B ≤ k ∨ ∃ o S, g_ord sf n B (k + 1) o S ∧ v4 = nI (o k)) → XS mX10_order 121 [(1, .int (nI k)), (2, .int (nI B)), (4, .int v4)] [] I1 L Q := by
      intro v4 hv
      have hpc : g_pc n B < 2 ^ 31 := by
        rw [g_pc_cnt]; have := g_cnt_le (fun i => B.testBit i) n; omega
      refine bX10_order_121 (s_ones hBl.1 (by omega) (bX10_order_126 (fun h => bX10_order_134 (bX10_order_135 (K I1 _ s1 ?_))) (fun h => bX10_order_129 (bX10_order_135 (K I1 _ s1 ?_)))))
      · rw [nI_leI hpc hk] at h
        exact Or.inr (Or.inr (Or.inr ⟨k, hk, rfl, hc0, Or.inl ⟨h, rfl⟩⟩))
      · rw [nI_leI hpc hk] at h
        rcases hv with hv | hv
        · exact absurd hv h
        · exact Or.inr (Or.inr (Or.inr ⟨k, hk, rfl, hc0, Or.inr ⟨by omega, hv⟩⟩))
    have steps : ∀ j i v4 o S, i + j = k + 1 → g_ord sf n B i o S → g_can sf n B (S i) → g_sub (S i) B → g_cnt (fun q => (S i).testBit q) n = i → (i ≠ 0 → v4 = nI (o (i - 1))) → XS mX10_order 48 [(0, .ref 49), (1, .int (nI k)), (2, .int (nI B)), (3, .int (nI (S i))), (4, .int v4), (5, .int (nI i))] [] I1 L Q := by
      intro j
      induction j with
      | zero =>
        intro i v4 o S hi hord hcan hsub hcnt hv4
        have hin : i ≤ n := by have := g_cnt_le (fun q => (S i).testBit q) n; omega
        refine bX10_order_48 (fun _ => fin v4 (Or.inr ⟨o, S, by rw [show k + 1 = i by omega]; exact hord, by rw [hv4 (by omega), show i - 1 = k by omega]⟩)) (fun h => ?_)
        rw [nI_ltI hk (by omega)] at h; omega
      | succ j ih =>
        intro i v4 o S hi hord hcan hsub hcnt hv4
        have hin : i ≤ n := by have := g_cnt_le (fun q => (S i).testBit q) n; omega
        have hSlt : S i < 256 := by
          have h1 : S i ≤ B := by
            have e : S i ||| B = B := by
              apply Nat.eq_of_testBit_eq
              intro q
              rw [Nat.testBit_or]
              cases hq : (S i).testBit q with
              | false => simp
              | true => rw [hsub q hq]; rfl
            have : S i ≤ S i ||| B := Nat.left_le_or
            omega
          omega
        refine bX10_order_48 (fun h => ?_) (fun _ => bX10_order_54 (fun h => ?_) (fun h => bX10_order_59 ?_))
        · rw [nI_ltI hk (by omega)] at h; omega
        · rw [nI_eq (by omega) (by omega)] at h
          refine fin v4 (Or.inl ?_)
          rw [g_pc_cnt, ← h, hcnt]; omega
        · have hne : S i ≠ B := fun q => h (by rw [q])
          have hex : ∃ v, g_nl1 sf n B (S i) v := by
            rcases g_can_iff.mp hcan with q | ⟨v, q⟩
            · exact absurd q hne
            · exact ⟨v, q⟩
          obtain ⟨v1, hv1, hmin⟩ := pk_least (fun v => g_nl1 sf n B (S i) v) hex
          -- look for it
          have look : ∀ q v, v + q = v1 → XS mX10_order 62 [(0, .ref 49), (1, .int (nI k)), (2, .int (nI B)), (3, .int (nI (S i))), (4, .int (nI v)), (5, .int (nI i))] [] I1 L Q := by
            intro q
            induction q with
            | zero =>
              intro v hv
              have hvv : v = v1 := by omega
              subst hvv
              obtain ⟨b1, b2, b3, b4, b5⟩ := id hv1
              have hor : S i ||| 2 ^ v < 256 := g_or_lt (n := 8) hSlt (by omega)
              have hI : I1 4416 (S i ||| 2 ^ v) = i_b (g_p (g_can sf n B (S i ||| 2 ^ v))) := hcg _ (by omega) hor (g_sub_or hsub b2)
              refine bX10_order_62 (s_hasNot hBl.2 (by omega) (bX10_order_72 (fun h => ?_) (fun _ => ?_)))
              · rw [i_b0, b2, b3] at h; cases h
              · refine bX10_order_75 (by rw [i_1shl (by omega), i_or]; exact vp_in_nI hor (by decide)) (fun h => ?_) (fun _ => bX10_order_89 ?_)
                · rw [i_1shl (by omega), i_or, nI_clamp (by omega), hI, g_p_iff.mpr b5] at h
                  exact absurd h (by decide)
                · rw [i_1shl (by omega), i_or]
                  refine s_isSafe (nxU := nxU) (nxS := nxS) hn1 hn8 (by omega) hR (hnx _) (bX10_order_99 (fun _ => bX10_order_108 ?_) (fun h => ?_))
                  · rw [i_1shl (by omega), i_or, nI_1]
                    obtain ⟨o', p1, p2⟩ : ∃ o' : Nat → Nat, o' i = v ∧ ∀ q, q ≠ i → o' q = o q := ⟨fun q => if q = i then v else o q, by simp, fun q hq => by simp [hq]⟩
                    obtain ⟨S', r1, r2⟩ : ∃ S' : Nat → Nat, S' (i + 1) = S i ||| 2 ^ v ∧ ∀ q, q ≠ i + 1 → S' q = S q := ⟨fun q => if q = i + 1 then S i ||| 2 ^ v else S q, by simp, fun q hq => by simp [hq]⟩
                    have := ih (i + 1) (nI v) o' S' (by omega) ⟨by rw [r2 0 (by omega)]; exact hord.1, fun q hq => ?_⟩ (by rw [r1]; exact b5) (by rw [r1]; exact g_sub_or hsub b2) (by rw [r1, g_cnt_or b1 b3, hcnt]) (fun _ => by rw [show i + 1 - 1 = i by omega, p1])
                    · rw [r1] at this; exact this
                    · by_cases hqi : q = i
                      · subst hqi
                        rw [r1, r2 q (by omega), p1]
                        exact ⟨rfl, hv1, fun u hu => hmin u hu⟩
                      · rw [r2 (q + 1) (by omega), r2 q (by omega), p2 q hqi]
                        exact hord.2 q (by omega)
                  · rw [i_b0, hsf, b4] at h; cases h
            | succ q ihq =>
              intro v hv
              have hnot := hmin v (by omega)
              have hvn : v < n := by have := hv1.1; omega
              have next : XS mX10_order 102 [(0, .ref 49), (1, .int (nI k)), (2, .int (nI B)), (3, .int (nI (S i))), (4, .int (nI v)), (5, .int (nI i))] [] I1 L Q := by
                refine bX10_order_102 ?_
                rw [nI_1]
                exact ihq (v + 1) (by omega)
              have hor : S i ||| 2 ^ v < 256 := g_or_lt (n := 8) hSlt (by omega)
              refine bX10_order_62 (s_hasNot hBl.2 (by omega) (bX10_order_72 (fun _ => next) (fun h => ?_)))
              rw [i_b0] at h
              have h' : B.testBit v = true ∧ (S i).testBit v = false := by
                simp at h; exact h
              have hI : I1 4416 (S i ||| 2 ^ v) = i_b (g_p (g_can sf n B (S i ||| 2 ^ v))) := hcg _ (by omega) hor (g_sub_or hsub h'.1)
              refine bX10_order_75 (by rw [i_1shl (by omega), i_or]; exact vp_in_nI hor (by decide)) (fun _ => next) (fun h2 => bX10_order_89 ?_)
              rw [i_1shl (by omega), i_or, nI_clamp (by omega), hI, i_b0] at h2
              rw [i_1shl (by omega), i_or]
              refine s_isSafe (nxU := nxU) (nxS := nxS) hn1 hn8 (by omega) hR (hnx _) (bX10_order_99 (fun h3 => ?_) (fun _ => next))
              rw [i_b0, hsf] at h3
              exact absurd ⟨hvn, h'.1, h'.2, by simpa using h3, g_p_iff.mp (by simpa using h2)⟩ hnot
          exact look v1 0 (by omega)
    exact steps (k + 1) 0 (-1) (fun _ => 0) (fun _ => 0) (by omega) ⟨rfl, fun i hi => by omega⟩ hc0 (fun i hi => by simp at hi) (g_cnt_zero n) (fun q => absurd rfl q)
  · intro he
    have e0 : I1 4416 0 = _ := hcg 0 (by omega) (by omega) (fun i hi => by simp at hi)
    rw [e0, i_b0, g_p_f] at he
    exact bX10_order_27 (K I1 _ s1 (Or.inr (Or.inl ⟨i_ge_m1.mp h, he, rfl⟩)))
  · rw [i_ge_m1] at h
    exact Classical.not_not.mp h
