/-! ===== the class's measure, whole ===== -/
def cC (I : Nat → Nat → Int32) (ln kind : Nat) (c : Nat → Nat) : Prop := ∀ l, l < ln → I (64 * (4 + kind)) l = nI (c l)
def g_nl (ln : Nat) (lo hi : Nat → Nat) (u : Nat) (a : Option Nat) : Option Nat := match a with
  | some v => g_lk ln lo hi u v
  | none => none
def cM (I : Nat → Nat → Int32) (e : Nat → Nat → Option Nat) (n ln : Nat) (lo hi : Nat → Nat) (w : Nat) : Prop := ∀ u, u < n → I 1088 u = nI (g_dst e u w) ∧ I 1152 u = i_o (g_nxt e n u w) ∧ I 1216 u = i_o (g_nl ln lo hi u (g_nxt e n u w))
noncomputable def g_pl (E : Nat → Nat → Option Nat) (w l : Nat) (lo hi c : Nat → Nat) (S u v : Nat) : Bool := match g_e l lo hi c S u v with
  | some x => decide (x + g_dst E v w = g_dst E u w)
  | none => false
theorem g_fst_ins {p q : Nat → Bool} {n y : Nat} {b : Bool} (hy : y < n) (hp : p y = false) (hq : ∀ v, v < n → q v = if v = y then b else p v) : g_fst q n = if b = true ∧ g_bet (g_fst p n) y = true then some y else g_fst p n := by
  cases hf : g_fst p n with
  | none =>
    have h0 := g_fst_none.mp hf
    cases b with
    | false =>
      simp only [Bool.false_eq_true, false_and, if_false]
      rw [g_fst_none]
      intro i hi
      rw [hq i hi]
      by_cases h : i = y
      · rw [if_pos h]
      · rw [if_neg h]; exact h0 i hi
    | true =>
      simp only [g_bet, and_self, if_true]
      rw [g_fst_some]
      refine ⟨hy, by rw [hq y hy, if_pos rfl], fun j hj => ?_⟩
      rw [hq j (by omega), if_neg (by omega)]
      exact h0 j (by omega)
  | some z =>
    obtain ⟨z1, z2, z3⟩ := g_fst_some.mp hf
    have hzy : z ≠ y := by rintro rfl; rw [hp] at z2; cases z2
    by_cases hb : b = true ∧ g_bet (some z) y = true
    · rw [if_pos hb, g_fst_some]
      have hlt : y < z := by simpa [g_bet] using hb.2
      refine ⟨hy, by rw [hq y hy, if_pos rfl]; exact hb.1, fun j hj => ?_⟩
      rw [hq j (by omega), if_neg (by omega)]
      exact z3 j (by omega)
    · rw [if_neg hb, g_fst_some]
      refine ⟨z1, by rw [hq z z1, if_neg hzy]; exact z2, fun j hj => ?_⟩
      rw [hq j (by omega)]
      by_cases h : j = y
      · subst h
        rw [if_pos rfl]
        cases b with
        | false => rfl
        | true => exact absurd ⟨rfl, by simp [g_bet]; exact hj⟩ hb
      · rw [if_neg h]; exact z3 j hj
theorem g_lk_first {n ln l : Nat} {lo hi : Nat → Nat} (hN : g_net n ln lo hi) (hl : l < ln) {u v : Nat} (hp : g_lkp lo hi u v l = true) : g_lk l lo hi u v = none := by
  cases hq : g_lk l lo hi u v with
  | none => rfl
  | some i =>
    exfalso
    have h1 := g_fst_some.mp hq
    have a := g_lkp_iff.mp h1.2.1
    have b := g_lkp_iff.mp hp
    have x := hN.2.2.2.1 i (by omega)
    have y := hN.2.2.2.1 l hl
    have := hN.2.2.2.2 i l (by omega) hl (by omega) (by omega)
    omega
/-- one end of a link: what it adds -/
theorem g_lead_1 {n ln l : Nat} {lo hi c : Nat → Nat} {S w : Nat} {E : Nat → Nat → Option Nat} (hN : g_net n ln lo hi) (hl : l < ln) (hbit : S.testBit l = true) {x y : Nat} (hxy : (x = lo l ∧ y = hi l) ∨ (x = hi l ∧ y = lo l)) :
    g_fst (g_pl E w (l + 1) lo hi c S x) n = if g_dst E y w + c l = g_dst E x w ∧ g_bet (g_fst (g_pl E w l lo hi c S x) n) y = true then some y else g_fst (g_pl E w l lo hi c S x) n := by
  have hb := hN.2.2.2.1 l hl
  have hlkp : ∀ v, g_lkp lo hi x v l = true ↔ v = y := fun v => by rw [g_lkp_iff]; omega
  have h0 : g_pl E w l lo hi c S x y = false := by
    unfold g_pl g_e
    rw [g_lk_first hN hl ((hlkp y).mpr rfl)]
  rw [g_fst_ins (p := g_pl E w l lo hi c S x) (y := y) (b := decide (g_dst E y w + c l = g_dst E x w)) (by omega) h0 (fun v _ => ?_)]
  · simp only [decide_eq_true_eq]
  · unfold g_pl
    rw [g_e_succ hN hl]
    by_cases hv : v = y
    · rw [if_pos ((hlkp v).mpr hv), if_pos hbit, if_pos hv, hv]
      dsimp only
      rw [Nat.add_comm]
    · rw [if_neg (fun q => hv ((hlkp v).mp q)), if_neg hv]
theorem g_lead_0 {n ln l : Nat} {lo hi c : Nat → Nat} {S w : Nat} {E : Nat → Nat → Option Nat} (hN : g_net n ln lo hi) (hl : l < ln) {x : Nat} (hx : (x ≠ lo l ∧ x ≠ hi l) ∨ S.testBit l = false) : g_fst (g_pl E w (l + 1) lo hi c S x) n = g_fst (g_pl E w l lo hi c S x) n := by
  refine g_fst_congr (fun v _ => ?_)
  unfold g_pl
  rw [g_e_succ hN hl]
  by_cases hp : g_lkp lo hi x v l = true
  · rw [if_pos hp]
    have h1 := g_lkp_iff.mp hp
    have hb : S.testBit l = false := by
      rcases hx with h | h
      · omega
      · exact h
    have : g_e l lo hi c S x v = none := by unfold g_e; rw [g_lk_first hN hl hp]
    rw [this, hb]
    rfl
  · rw [if_neg hp]
theorem c_measure {n ln kind S w : Nat} {lo hi c : Nat → Nat} {I : Nat → Nat → Int32} {L : Nat → Int64} {Q : Option Value → (Nat → Nat → Int32) → (Nat → Int64) → Prop} (hG : cG I n ln lo hi) (hN : g_net n ln lo hi) (hC : cC I ln kind c) (hc : g_cs ln c) (hk : kind < 2) (hS : S < 2 ^ 31) (hw : w < n)
    (K : ∀ I', Sm [1088, 1152, 1216] I I' → cM I' (g_e ln lo hi c S) n ln lo hi w → Q none I' L) : XS mX5_measure 0 [(0, .ref 16), (1, .int (nI w)), (2, .int (nI kind)), (3, .int (nI S))] [] I L Q := by
  have hn8 := hN.2.1
  have hn2 := hN.1
  have hln := hN.2.2.1
  have he := g_e_ok hN hc S
  have hsh : x_SH[4 + kind]? = some (1, 14) := by
    rcases (show kind = 0 ∨ kind = 1 by omega) with rfl | rfl <;> rfl
  have gG : ∀ {I'}, Sm [1088, 1152, 1216] I I' → cG I' n ln lo hi := fun hs => hG.sm hs (by decide) (by decide) (by decide) (by decide)
  have gC : ∀ {I'}, Sm [1088, 1152, 1216] I I' → cC I' ln kind c := fun hs l hl => by
    rw [hs _ (by rcases (show kind = 0 ∨ kind = 1 by omega) with rfl | rfl <;> decide)]
    exact hC l hl
  have kn : kind = 0 ↔ nI kind = (0 : Int32) := by rw [show (0 : Int32) = nI 0 from rfl, nI_eq (by omega) (by omega)]
  -- the last loop: which node goes on
  have last : ∀ m l, l + m = ln → ∀ I', Sm [1088, 1152, 1216] I I' → (∃ D, cS I' D ∧ ∀ u, u < n → D u = g_dst (g_e ln lo hi c S) u w) →
      cA I' (fun x => g_fst (g_pl (g_e ln lo hi c S) w l lo hi c S x) n) (fun x => g_nl ln lo hi x (g_fst (g_pl (g_e ln lo hi c S) w l lo hi c S x) n)) → XS mX5_measure 141 [(0, .ref 16), (3, .int (nI S)), (4, .ref (4 + kind)), (5, .int (nI l))] [] I' L Q := by
    intro m
    induction m with
    | zero =>
      intro l hl I' hs hD hA
      refine bX5_measure_141 (fun _ => bX5_measure_231 (K I' hs (fun u hu => ?_))) (fun h => ?_)
      · obtain ⟨D, hD1, hD2⟩ := hD
        have e1 := hA u (by omega)
        rw [show l = ln by omega] at e1
        refine ⟨by rw [hD1 u (by omega), hD2 u hu], e1.1, e1.2⟩
      · rw [(gG hs).2.1] at h
        exact absurd ((nI_leI (by omega) (by omega)).mpr (by omega)) h
    | succ m ih =>
      intro l hl I' hs hD hA
      obtain ⟨D, hD1, hD2⟩ := hD
      have hb := hN.2.2.2.1 l (by omega)
      have hcl := hc l (by omega)
      have hvp : vp_in (nI l) 14 := vp_in_nI (by omega) (by decide)
      have dlo := hD2 (lo l) (by omega)
      have dhi := hD2 (hi l) (by omega)
      have bnd : ∀ u, u < n → g_dst (g_e ln lo hi c S) u w ≤ 1000 := fun u hu => by rcases g_dst_cases he (w := w) hu with q | q <;> omega
      have blo := bnd (lo l) (by omega)
      have bhi := bnd (hi l) (by omega)
      have gAb : ∀ (p : Nat → Nat → Bool) x y, g_fst (p x) n = some y → y < 8 := fun p x y h => by have := (g_fst_some.mp h).1; omega
      refine bX5_measure_141 (fun h => ?_) (fun _ => bX5_measure_153 (fun h => bX5_measure_225 ?_) (fun h => ?_))
      · rw [(gG hs).2.1, nI_leI (by omega) (by omega)] at h; omega
      · rw [i_bit hS (by omega), i_b1] at h
        have hf : S.testBit l = false := by simpa using h
        rw [nI_1]
        refine ih (l + 1) (by omega) I' hs ⟨D, hD1, hD2⟩ (fun x hx => ?_)
        dsimp only
        rw [g_lead_0 hN (by omega) (Or.inr hf)]
        exact hA x hx
      · rw [i_bit hS (by omega), i_b1] at h
        have hlk : g_lk ln lo hi (lo l) (hi l) = some l := (g_lk_some hN).mpr ⟨by omega, Or.inl ⟨rfl, rfl⟩⟩
        have hlk2 : g_lk ln lo hi (hi l) (lo l) = some l := (g_lk_some hN).mpr ⟨by omega, Or.inr ⟨rfl, rfl⟩⟩
        refine bX5_measure_163 hvp hvp hsh hvp ?_
        rw [nI_clamp (by omega), ((gG hs).2.2 l (by omega)).1, ((gG hs).2.2 l (by omega)).2, gC hs l (by omega)]
        refine c_leadOn hD1 hA (fun x y hy => gAb _ x y hy) (by omega) (by omega) (by omega) (by omega) (fun I1 s1 hA1 => ?_)
        have hs1 : Sm [1088, 1152, 1216] I I1 := hs.tr (s1.mono (by simp))
        have hD1' : cS I1 D := fun x hx => by rw [s1 _ (by decide)]; exact hD1 x hx
        refine bX5_measure_194 hvp hvp hsh hvp ?_
        rw [nI_clamp (by omega), ((gG hs1).2.2 l (by omega)).1, ((gG hs1).2.2 l (by omega)).2, gC hs1 l (by omega)]
        refine c_leadOn hD1' hA1 (fun x y hy => ?_) (by omega) (by omega) (by omega) (by omega) (fun I2 s2 hA2 => bX5_measure_225 ?_)
        · split at hy
          · cases hy; omega
          · exact gAb _ x y hy
        · rw [nI_1]
          have hs2 : Sm [1088, 1152, 1216] I I2 := hs1.tr (s2.mono (by simp))
          refine ih (l + 1) (by omega) I2 hs2 ⟨D, fun x hx => by rw [s2 _ (by decide)]; exact hD1' x hx, hD2⟩ (fun x hx => ?_)
          have q := hA2 x hx
          dsimp only at q ⊢
          have hne : lo l ≠ hi l := by omega
          have L1 := g_lead_1 (E := g_e ln lo hi c S) (w := w) (c := c) hN (show l < ln by omega) h (x := lo l) (y := hi l) (Or.inl ⟨rfl, rfl⟩)
          have L2 := g_lead_1 (E := g_e ln lo hi c S) (w := w) (c := c) hN (show l < ln by omega) h (x := hi l) (y := lo l) (Or.inr ⟨rfl, rfl⟩)
          rw [dlo, dhi] at q
          by_cases x1 : x = lo l
          · subst x1
            rw [L1]
            simp only [hne, false_and, if_false, true_and] at q
            by_cases hcond : g_dst (g_e ln lo hi c S) (hi l) w + c l = g_dst (g_e ln lo hi c S) (lo l) w ∧ g_bet (g_fst (g_pl (g_e ln lo hi c S) w l lo hi c S (lo l)) n) (hi l) = true
            · rw [if_pos hcond, if_pos hcond] at q
              rw [if_pos hcond]
              exact ⟨q.1, by rw [q.2, g_nl, hlk]⟩
            · rw [if_neg hcond, if_neg hcond] at q
              rw [if_neg hcond]
              exact q
          · by_cases x2 : x = hi l
            · subst x2
              rw [L2]
              simp only [Ne.symm hne, false_and, if_false, true_and] at q
              by_cases hcond : g_dst (g_e ln lo hi c S) (lo l) w + c l = g_dst (g_e ln lo hi c S) (hi l) w ∧ g_bet (g_fst (g_pl (g_e ln lo hi c S) w l lo hi c S (hi l)) n) (lo l) = true
              · rw [if_pos hcond, if_pos hcond] at q
                rw [if_pos hcond]
                exact ⟨q.1, by rw [q.2, g_nl, hlk2]⟩
              · rw [if_neg hcond, if_neg hcond] at q
                rw [if_neg hcond]
                exact q
            · rw [g_lead_0 hN (by omega) (Or.inl ⟨x1, x2⟩)]
              simp only [x1, x2, false_and, if_false] at q
              exact q
  -- a round over the links
  have links : ∀ r, (∀ I' D, Sm [1088, 1152, 1216] I I' → g_bf (g_e ln lo hi c S) n w (r + 1) D → cS I' D → cA I' (fun _ => none) (fun _ => none) → XS mX5_measure 132 [(0, .ref 16), (3, .int (nI S)), (4, .ref (4 + kind)), (5, .int (nI (r + 1)))] [] I' L Q) →
      ∀ m l, l + m = ln → ∀ I' D, Sm [1088, 1152, 1216] I I' → g_bl n l lo hi c S (g_e ln lo hi c S) w r D → cS I' D → cA I' (fun _ => none) (fun _ => none) → XS mX5_measure 46 [(0, .ref 16), (3, .int (nI S)), (4, .ref (4 + kind)), (5, .int (nI (r + 1))), (6, .int (nI l))] [] I' L Q := by
    intro r KK m
    induction m with
    | zero =>
      intro l hl I' D hs hbl hD hA
      refine bX5_measure_46 (fun _ => KK I' D hs (g_bl_end hN hc (by rw [show ln = l by omega] at hbl ⊢; exact hbl)) hD hA) (fun h => ?_)
      rw [(gG hs).2.1] at h
      exact absurd ((nI_leI (by omega) (by omega)).mpr (by omega)) h
    | succ m ih =>
      intro l hl I' D hs hbl hD hA
      have hb := hN.2.2.2.1 l (by omega)
      have hcl := hc l (by omega)
      have hvp : vp_in (nI l) 14 := vp_in_nI (by omega) (by decide)
      have blo := (hbl.1.1 (lo l) (by omega)).2
      have bhi := (hbl.1.1 (hi l) (by omega)).2
      refine bX5_measure_46 (fun h => ?_) (fun _ => bX5_measure_58 (fun h => bX5_measure_126 ?_) (fun h => ?_))
      · rw [(gG hs).2.1, nI_leI (by omega) (by omega)] at h; omega
      · rw [i_bit hS (by omega), i_b1] at h
        rw [nI_1]
        exact ih (l + 1) (by omega) I' D hs (g_bl_skip (by simpa using h) hbl) hD hA
      · rw [i_bit hS (by omega), i_b1] at h
        refine bX5_measure_68 hvp hvp hsh hvp ?_
        rw [nI_clamp (by omega), ((gG hs).2.2 l (by omega)).1, ((gG hs).2.2 l (by omega)).2, gC hs l (by omega)]
        refine c_shorten hD (by omega) (by omega) (by omega) ⟨blo, bhi⟩ (fun I1 s1 hD1 => ?_)
        have hs1 : Sm [1088, 1152, 1216] I I1 := hs.tr (s1.mono (by simp))
        refine bX5_measure_97 hvp hvp hsh hvp ?_
        rw [nI_clamp (by omega), ((gG hs1).2.2 l (by omega)).1, ((gG hs1).2.2 l (by omega)).2, gC hs1 l (by omega)]
        refine c_shorten hD1 (by omega) (by omega) (by omega) ⟨?_, ?_⟩ (fun I2 s2 hD2 => bX5_measure_126 ?_)
        · rw [if_neg (by omega)]; exact bhi
        · rw [if_pos rfl]; omega
        · rw [nI_1]
          refine ih (l + 1) (by omega) I2 _ (hs1.tr (s2.mono (by simp))) (g_bl_step hN (by omega) h hbl (fun x => rfl) (fun x => rfl)) hD2 (fun x hx => ?_)
          rw [s2 _ (by decide), s2 _ (by decide), s1 _ (by decide), s1 _ (by decide)]
          exact hA x hx
  have rounds : ∀ m r, r + 1 + m = n → ∀ I' D, Sm [1088, 1152, 1216] I I' → g_bf (g_e ln lo hi c S) n w r D → cS I' D → cA I' (fun _ => none) (fun _ => none) → XS mX5_measure 31 [(0, .ref 16), (3, .int (nI S)), (4, .ref (4 + kind)), (5, .int (nI (r + 1)))] [] I' L Q := by
    intro m
    induction m with
    | zero =>
      intro r hr I' D hs hbf hD hA
      refine bX5_measure_31 (fun _ => bX5_measure_138 ?_) (fun h => ?_)
      · refine last ln 0 (by omega) I' hs ⟨D, hD, g_bf_end he hbf (by omega)⟩ (fun x hx => ?_)
        have h0 : g_fst (g_pl (g_e ln lo hi c S) w 0 lo hi c S x) n = none := g_fst_none.mpr (fun i _ => rfl)
        dsimp only
        rw [h0]
        exact hA x hx
      · rw [(gG hs).1] at h
        exact absurd ((nI_leI (by omega) (by omega)).mpr (by omega)) h
    | succ m ih =>
      intro r hr I' D hs hbf hD hA
      refine bX5_measure_31 (fun h => ?_) (fun _ => bX5_measure_43 ?_)
      · rw [(gG hs).1, nI_leI (by omega) (by omega)] at h; omega
      · refine links r (fun I1 D1 hs1 hbf1 hD1 hA1 => bX5_measure_132 ?_) ln 0 (by omega) I' D hs ⟨hbf, fun j hj => by omega⟩ hD hA
        rw [nI_1]
        exact ih (r + 1) (by omega) I1 D1 hs1 hbf1 hD1 hA1
  have start : XS mX5_measure 21 [(0, .ref 16), (1, .int (nI w)), (3, .int (nI S))] [.ref (4 + kind)] I L Q :=
    bX5_measure_21 (c_startFrom (by omega) (fun I1 s1 hS1 hA1 => bX5_measure_28 (rounds (n - 1) 0 (by omega) I1 _ s1 (g_bf_0 he hw) hS1 hA1)))
  refine bX5_measure_0 (fun h => ?_) (fun h => ?_)
  · have : kind = 1 := by
      have := mt kn.mp h
      omega
    subst this
    exact bX5_measure_14 start
  · have := kn.mpr h
    subst this
    exact bX5_measure_4 start
theorem c_nodeAhead {I : Nat → Nat → Int32} {L : Nat → Int64} {Q : Option Value → (Nat → Nat → Int32) → (Nat → Int64) → Prop} {u : Nat} (hu : u < 8) (K : Q (some (.int (I 1152 u))) I L) : XS mX5_nodeAhead 0 [(0, .ref 16), (1, .int (nI u))] [] I L Q := by
  refine bX5_nodeAhead_0 (fun h => absurd h (nI_pos (by omega))) (fun _ => bX5_nodeAhead_4 (fun h => ?_) (fun _ => bX5_nodeAhead_10 (vp_in_nI hu (by decide)) (bX5_nodeAhead_20 ?_)))
  · have := (i_le 8 u rfl rfl (by omega) (by omega)).mp h
    omega
  · rw [nI_clamp (by omega)]; exact K
theorem c_linkAhead {I : Nat → Nat → Int32} {L : Nat → Int64} {Q : Option Value → (Nat → Nat → Int32) → (Nat → Int64) → Prop} {u : Nat} (hu : u < 8) (K : Q (some (.int (I 1216 u))) I L) : XS mX5_linkAhead 0 [(0, .ref 16), (1, .int (nI u))] [] I L Q := by
  refine bX5_linkAhead_0 (fun h => absurd h (nI_pos (by omega))) (fun _ => bX5_linkAhead_4 (fun h => ?_) (fun _ => bX5_linkAhead_10 (vp_in_nI hu (by decide)) (bX5_linkAhead_20 ?_)))
  · have := (i_le 8 u rfl rfl (by omega) (by omega)).mp h
    omega
  · rw [nI_clamp (by omega)]; exact K
theorem c_sumFrom {I : Nat → Nat → Int32} {L : Nat → Int64} {Q : Option Value → (Nat → Nat → Int32) → (Nat → Int64) → Prop} {u d : Nat} (hu : u < 8) (hd : I 1088 u = nI d) (hd2 : d < 2 ^ 31) (K : Q (some (.int (if d < 1000 then nI d else -1))) I L) : XS mX5_sumFrom 0 [(0, .ref 16), (1, .int (nI u))] [] I L Q := by
  have hvp : vp_in (nI u) 8 := vp_in_nI hu (by decide)
  refine bX5_sumFrom_0 (fun h => absurd h (nI_pos (by omega))) (fun _ => bX5_sumFrom_4 (fun h => ?_) (fun _ => bX5_sumFrom_10 hvp (fun h => bX5_sumFrom_31 (bX5_sumFrom_32 ?_)) (fun h => bX5_sumFrom_22 hvp (bX5_sumFrom_32 ?_))))
  · have := (i_le 8 u rfl rfl (by omega) (by omega)).mp h
    omega
  · rw [nI_clamp (by omega), hd] at h
    have := (i_le 1000 d rfl rfl (by omega) hd2).mp h
    rw [if_neg (by omega)] at K; exact K
  · rw [nI_clamp (by omega), hd] at h
    have h1 : ¬ 1000 ≤ d := fun q => h ((i_le 1000 d rfl rfl (by omega) hd2).mpr q)
    rw [if_pos (by omega)] at K
    rw [nI_clamp (by omega), hd]; exact K
