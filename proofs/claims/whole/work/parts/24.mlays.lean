/-! ===== the reference's sums of all pairs, and the node next ===== -/
theorem g_lk_succ (ln : Nat) (lo hi : Nat → Nat) (u v : Nat) : g_lk (ln + 1) lo hi u v = match g_lk ln lo hi u v with
    | some i => some i
    | none => if g_lkp lo hi u v ln = true then some ln else none := rfl
theorem g_e_succ {n ln l : Nat} {lo hi c : Nat → Nat} {S : Nat} (hN : g_net n ln lo hi) (hl : l < ln) (u v : Nat) : g_e (l + 1) lo hi c S u v = if g_lkp lo hi u v l = true then (if S.testBit l = true then some (c l) else none) else g_e l lo hi c S u v := by
  unfold g_e
  rw [g_lk_succ]
  cases h : g_lk l lo hi u v with
  | some i =>
    have h1 := g_fst_some.mp h
    by_cases hp : g_lkp lo hi u v l = true
    · exfalso
      have a := g_lkp_iff.mp h1.2.1
      have b := g_lkp_iff.mp hp
      have x := hN.2.2.2.1 i (by omega)
      have y := hN.2.2.2.1 l hl
      have := hN.2.2.2.2 i l (by omega) hl (by omega) (by omega)
      omega
    · simp [hp]
  | none =>
    by_cases hp : g_lkp lo hi u v l = true
    · simp [hp]
    · simp [hp]
noncomputable def g_far (e : Nat → Nat → Option Nat) (u w : Nat) : Nat := if g_dst e u w = 1000 then 9999 else g_dst e u w
def mFar (I : Nat → Nat → Int32) (e : Nat → Nat → Option Nat) (n : Nat) : Prop := ∀ u w, u < n → w < n → I 3712 (8 * u + w) = nI (g_far e u w)
def g_f0 (e : Nat → Nat → Option Nat) (u w : Nat) : Nat := if u = w then 0 else match e u w with
  | some c => c
  | none => 9999
theorem g_fw_0 {e : Nat → Nat → Option Nat} {n : Nat} (he : g_ok e n) : g_fw e 0 (g_f0 e) := by
  refine ⟨fun u _ => by simp [g_f0], fun u w _ _ => ?_, fun u w k d _ _ h => ?_⟩
  · unfold g_f0
    by_cases huw : u = w
    · rw [if_pos huw]
      exact ⟨by omega, fun _ => ⟨0, huw, rfl⟩⟩
    · rw [if_neg huw]
      cases h : e u w with
      | none => exact ⟨by simp, fun q => by simp at q⟩
      | some c =>
        have := he.2.1 u w c h
        exact ⟨by dsimp only; omega, fun _ => ⟨1, w, c, 0, h, ⟨rfl, rfl⟩, rfl⟩⟩
  · unfold g_f0
    by_cases huw : u = w
    · rw [if_pos huw]; omega
    · rw [if_neg huw]
      cases k with
      | zero => exact absurd h.1 huw
      | succ k =>
        obtain ⟨v, c, d', h1, h2, h3⟩ := h
        rcases h3 with ⟨rfl, rfl⟩ | ⟨h3, -⟩
        · rw [h1]; dsimp only; omega
        · omega
def mF (I : Nat → Nat → Int32) (F : Nat → Nat → Nat) : Prop := ∀ j, j < 64 → I 3712 j = nI (F (j / 8) (j % 8))
theorem i_div8 {k : Nat} (hk : k < 2 ^ 31) : nI k / (8 : Int32) = nI (k / 8) := pk_div (d := 8) hk (by decide) (by decide)
theorem i_rem8 {k : Nat} (hk : k < 2 ^ 31) : nI k - nI k / (8 : Int32) * (8 : Int32) = nI (k % 8) := pk_rem (d := 8) hk (by decide) (by decide)
theorem i_mul8 (k : Nat) : nI k * (8 : Int32) = nI (k * 8) := pk_mul k 8
theorem i_8mul (k : Nat) : (8 : Int32) * nI k = nI (8 * k) := pk_mul 8 k
theorem s_lays1 {I : Nat → Nat → Int32} {L : Nat → Int64} {Q : Option Value → (Nat → Nat → Int32) → (Nat → Int64) → Prop} {x y : Int32}
    (K : ∀ I', Sm [3712] I I' → mF I' (fun u w => if u = w then 0 else 9999) → XS mX10_lays 38 [(0, .ref 49), (1, .int x), (2, .int y)] [] I' L Q) : XS mX10_lays 0 [(0, .ref 49), (1, .int x), (2, .int y)] [] I L Q := by
  have key : ∀ m k, k + m = 64 → ∀ I', Sm [3712] I I' → (∀ j, j < k → I' 3712 j = nI (if j / 8 = j % 8 then 0 else 9999)) → XS mX10_lays 2 [(0, .ref 49), (1, .int x), (2, .int y), (3, .int (nI k))] [] I' L Q := by
    intro m
    induction m with
    | zero =>
      intro k hk I' hs hj
      refine bX10_lays_2 (fun _ => K I' hs (fun j hj' => hj j (by omega))) (fun h => ?_)
      exact absurd ((i_le 64 k rfl rfl (by omega) (by omega)).mpr (by omega)) h
    | succ m ih =>
      intro k hk I' hs hj
      have hvp : vp_in (nI k) 64 := vp_in_nI (by omega) (by decide)
      have go : ∀ v : Nat, v = (if k / 8 = k % 8 then 0 else 9999) → XS mX10_lays 31 [(0, .ref 49), (1, .int x), (2, .int y), (3, .int (nI k))] [.int (nI v), .int (nI k), .ref 58] I' L Q := fun v hv => by
        refine bX10_lays_31 hvp ?_
        rw [nI_1, nI_clamp (by omega)]
        refine ih (k + 1) (by omega) _ (hs.up (by simp)) (fun j hj' => ?_)
        by_cases hjk : j = k
        · subst hjk; rw [x_up_at, hv]
        · rw [x_up_off hjk]; exact hj j (by omega)
      refine bX10_lays_2 (fun h => ?_) (fun _ => bX10_lays_8 (fun h => bX10_lays_28 ?_) (fun h => bX10_lays_24 ?_))
      · have := (i_le 64 k rfl rfl (by omega) (by omega)).mp h
        omega
      · rw [i_rem8 (by omega), i_div8 (by omega), nI_eq (by omega) (by omega)] at h
        exact go 9999 (by rw [if_neg h])
      · rw [i_rem8 (by omega), i_div8 (by omega), nI_eq (by omega) (by omega)] at h
        exact go 0 (by rw [if_pos h])
  exact bX10_lays_0 (key 64 0 rfl I Sm.rf (fun j hj => by omega))
theorem s_lays2 {n ln kind S : Nat} {lo hi c : Nat → Nat} {I0 I : Nat → Nat → Int32} {L : Nat → Int64} {Q : Option Value → (Nat → Nat → Int32) → (Nat → Int64) → Prop} (hG : mG I0 n ln lo hi) (hN : g_net n ln lo hi) (hC : mC I0 ln kind c) (hk : kind < 2) (hS : S < 2 ^ 31) (hI : Sm [3712] I0 I) (hF : mF I (fun u w => if u = w then 0 else 9999))
    (K : ∀ I', Sm [3712] I0 I' → mF I' (g_f0 (g_e ln lo hi c S)) → XS mX10_lays 116 [(0, .ref 49)] [] I' L Q) : XS mX10_lays 38 [(0, .ref 49), (1, .int (nI kind)), (2, .int (nI S))] [] I L Q := by
  have hln := hN.2.2.1
  have hn8 := hN.2.1
  have key : ∀ m l, l + m = ln → ∀ I', Sm [3712] I0 I' → mF I' (g_f0 (g_e l lo hi c S)) → XS mX10_lays 40 [(0, .ref 49), (1, .int (nI kind)), (2, .int (nI S)), (3, .int (nI l))] [] I' L Q := by
    intro m
    induction m with
    | zero =>
      intro l hl I' hs hF'
      have hG' := hG.sm hs (by decide) (by decide) (by decide) (by decide)
      refine bX10_lays_40 (fun _ => ?_) (fun h => ?_)
      · rw [show ln = l by omega] at K
        exact K I' hs hF'
      · rw [hG'.2.1] at h
        exact absurd ((nI_leI (by omega) (by omega)).mpr (by omega)) h
    | succ m ih =>
      intro l hl I' hs hF'
      have hG' := hG.sm hs (by decide) (by decide) (by decide) (by decide)
      have hC' : mC I' ln kind c := fun l hl => by rw [hs 3392 (by decide)]; exact hC l hl
      have hb := hN.2.2.2.1 l (by omega)
      obtain ⟨e1, e2⟩ := hG'.2.2 l (by omega)
      have hvp : vp_in (nI l) 14 := vp_in_nI (by omega) (by decide)
      have hs' := g_e_succ (c := c) (S := S) hN (show l < ln by omega)
      refine bX10_lays_40 (fun h => ?_) (fun _ => bX10_lays_48 (s_has hS (by omega) (bX10_lays_53 (fun h => ?_) (fun h => ?_))))
      · rw [hG'.2.1, nI_leI (by omega) (by omega)] at h; omega
      · rw [i_b0] at h
        refine bX10_lays_110 ?_
        rw [nI_1]
        refine ih (l + 1) (by omega) I' hs (fun j hj => ?_)
        rw [hF' j hj]
        unfold g_f0
        rw [hs']
        by_cases huw : j / 8 = j % 8
        · rw [if_pos huw, if_pos huw]
        · rw [if_neg huw, if_neg huw]
          by_cases hp : g_lkp lo hi (j / 8) (j % 8) l = true
          · rw [if_pos hp, h]
            have : g_e l lo hi c S (j / 8) (j % 8) = none := by
              have hno : g_lk l lo hi (j / 8) (j % 8) = none := by
                cases hq : g_lk l lo hi (j / 8) (j % 8) with
                | none => rfl
                | some i =>
                  exfalso
                  have h1 := g_fst_some.mp hq
                  have a := g_lkp_iff.mp h1.2.1
                  have b := g_lkp_iff.mp hp
                  have x := hN.2.2.2.1 i (by omega)
                  have := hN.2.2.2.2 i l (by omega) (by omega) (by omega) (by omega)
                  omega
              unfold g_e
              rw [hno]
            rw [this]; rfl
          · rw [if_neg hp]
      · rw [i_b0] at h
        have hbit : S.testBit l = true := by simpa using h
        refine bX10_lays_56 hvp hvp (s_length hC' hk (by omega) hln ?_)
        rw [nI_clamp (by omega), e1, e2, i_8mul, nI_add]
        have a1 : vp_in (nI (8 * lo l + hi l)) 64 := vp_in_nI (by omega) (by decide)
        refine bX10_lays_82 a1 hvp hvp ?_
        rw [nI_clamp (by omega), nI_clamp (by omega)]
        have hs1 : Sm [3712] I0 (x_up I' 3712 (8 * lo l + hi l) (nI (c l))) := hs.up (by simp)
        have hC1 : mC (x_up I' 3712 (8 * lo l + hi l) (nI (c l))) ln kind c := fun l hl => by rw [hs1 3392 (by decide)]; exact hC l hl
        refine s_length hC1 hk (by omega) hln ?_
        rw [x_up_ne (by decide), x_up_ne (by decide), e1, e2, i_8mul, nI_add]
        have a2 : vp_in (nI (8 * hi l + lo l)) 64 := vp_in_nI (by omega) (by decide)
        refine bX10_lays_109 a2 (bX10_lays_110 ?_)
        rw [nI_1, nI_clamp (by omega)]
        refine ih (l + 1) (by omega) _ (hs1.up (by simp)) (fun j hj => ?_)
        unfold g_f0
        rw [hs', hbit, if_pos rfl]
        by_cases q2 : j = 8 * hi l + lo l
        · have d1 : j / 8 = hi l := by omega
          have d2 : j % 8 = lo l := by omega
          rw [q2, x_up_at, ← q2, d1, d2, if_neg (by omega), if_pos (g_lkp_iff.mpr (Or.inr ⟨rfl, rfl⟩))]
        · rw [x_up_off q2]
          by_cases q1 : j = 8 * lo l + hi l
          · have d1 : j / 8 = lo l := by omega
            have d2 : j % 8 = hi l := by omega
            rw [q1, x_up_at, ← q1, d1, d2, if_neg (by omega), if_pos (g_lkp_iff.mpr (Or.inl ⟨rfl, rfl⟩))]
          · rw [x_up_off q1, hF' j hj]
            have hp : ¬ g_lkp lo hi (j / 8) (j % 8) l = true := by rw [g_lkp_iff]; omega
            rw [if_neg hp]
            rfl
  refine bX10_lays_38 (key ln 0 (by omega) I hI (fun j hj => ?_))
  rw [hF j hj]
  rfl
theorem s_lays3 {n ln : Nat} {lo hi : Nat → Nat} {e : Nat → Nat → Option Nat} {I0 I : Nat → Nat → Int32} {L : Nat → Int64} {Q : Option Value → (Nat → Nat → Int32) → (Nat → Int64) → Prop} (hG : mG I0 n ln lo hi) (hn8 : n ≤ 8) (he : g_ok e n) (hI : Sm [3712] I0 I) (hF : mF I (g_f0 e))
    (K : ∀ I', Sm [3712] I0 I' → (∃ F, g_fw e n F ∧ mF I' F) → Q none I' L) : XS mX10_lays 116 [(0, .ref 49)] [] I L Q := by
  have inner : ∀ (b : Nat) (F G : Nat → Nat → Nat), b < n → g_fw e b F → (∀ u w, G u w = min (F u b + F b w) (F u w)) → (∀ I', Sm [3712] I0 I' → mF I' G → XS mX10_lays 206 [(0, .ref 49), (3, .int (nI b))] [] I' L Q) →
      ∀ m k, k + m = 64 → ∀ I', Sm [3712] I0 I' → (∀ j, j < 64 → I' 3712 j = nI (if j < k then G (j / 8) (j % 8) else F (j / 8) (j % 8))) → XS mX10_lays 129 [(0, .ref 49), (3, .int (nI b)), (4, .int (nI k))] [] I' L Q := by
    intro b F G hb hfw hG2 KK m
    induction m with
    | zero =>
      intro k hk I' hs hj
      refine bX10_lays_129 (fun _ => KK I' hs (fun j hj' => by rw [hj j hj', if_pos (by omega)])) (fun h => ?_)
      exact absurd ((i_le 64 k rfl rfl (by omega) (by omega)).mpr (by omega)) h
    | succ m ih =>
      intro k hk I' hs hj
      have hvp : vp_in (nI k) 64 := vp_in_nI (by omega) (by decide)
      have f1 := hfw.1 b (by omega)
      have hu := (hfw.2.1 (k / 8) b (by omega) (by omega)).1
      have hw := (hfw.2.1 b (k % 8) (by omega) (by omega)).1
      have ho := (hfw.2.1 (k / 8) (k % 8) (by omega) (by omega)).1
      have r1 : I' 3712 (k / 8 * 8 + b) = nI (F (k / 8) b) := by
        rw [hj _ (by omega), show (k / 8 * 8 + b) / 8 = k / 8 by omega, show (k / 8 * 8 + b) % 8 = b by omega]
        by_cases h : k / 8 * 8 + b < k
        · rw [if_pos h, hG2, f1]; congr 1; omega
        · rw [if_neg h]
      have r2 : I' 3712 (8 * b + k % 8) = nI (F b (k % 8)) := by
        rw [hj _ (by omega), show (8 * b + k % 8) / 8 = b by omega, show (8 * b + k % 8) % 8 = k % 8 by omega]
        by_cases h : 8 * b + k % 8 < k
        · rw [if_pos h, hG2, f1]; congr 1; omega
        · rw [if_neg h]
      have r3 : I' 3712 k = nI (F (k / 8) (k % 8)) := by rw [hj k (by omega), if_neg (by omega)]
      have go : ∀ v : Nat, v = G (k / 8) (k % 8) → XS mX10_lays 199 [(0, .ref 49), (3, .int (nI b)), (4, .int (nI k))] [.int (nI v), .int (nI k), .ref 58] I' L Q := fun v hv => by
        refine bX10_lays_199 hvp ?_
        rw [nI_1, nI_clamp (by omega)]
        refine ih (k + 1) (by omega) _ (hs.up (by simp)) (fun j hj' => ?_)
        by_cases hjk : j = k
        · subst hjk; rw [x_up_at, hv, if_pos (by omega)]
        · rw [x_up_off hjk, hj j hj']
          by_cases h : j < k
          · rw [if_pos h, if_pos (by omega)]
          · rw [if_neg h, if_neg (by omega)]
      refine bX10_lays_129 (fun h => ?_) (fun _ => ?_)
      · have := (i_le 64 k rfl rfl (by omega) (by omega)).mp h
        omega
      · have i1 : nI k / (8 : Int32) * (8 : Int32) + nI b = nI (k / 8 * 8 + b) := by rw [i_div8 (by omega), i_mul8, nI_add]
        have i2 : (8 : Int32) * nI b + (nI k - nI k / (8 : Int32) * (8 : Int32)) = nI (8 * b + k % 8) := by rw [i_rem8 (by omega), i_8mul, nI_add]
        refine bX10_lays_136 (i_vp _ i1 (by omega) (by decide)) (i_vp _ i2 (by omega) (by decide)) hvp (fun h => ?_) (fun h => ?_)
        · rw [i1, i2, nI_clamp (by omega), nI_clamp (by omega), nI_clamp (by omega), r1, r2, r3, nI_add, nI_leI (by omega) (by omega)] at h
          refine bX10_lays_192 hvp ?_
          rw [nI_clamp (by omega), r3]
          exact go _ (by rw [hG2]; omega)
        · rw [i1, i2, nI_clamp (by omega), nI_clamp (by omega), nI_clamp (by omega), r1, r2, r3, nI_add, nI_leI (by omega) (by omega)] at h
          rw [i1, i2, nI_clamp (by omega), nI_clamp (by omega), r1, r2, nI_add]
          exact bX10_lays_187 (go _ (by rw [hG2]; omega))
  have outer : ∀ m b, b + m = n → ∀ I' F, Sm [3712] I0 I' → g_fw e b F → mF I' F → XS mX10_lays 118 [(0, .ref 49), (3, .int (nI b))] [] I' L Q := by
    intro m
    induction m with
    | zero =>
      intro b hb I' F hs hfw hF'
      have hG' := hG.sm hs (by decide) (by decide) (by decide) (by decide)
      refine bX10_lays_118 (fun _ => bX10_lays_212 (K I' hs ⟨F, by rw [show n = b by omega]; exact hfw, hF'⟩)) (fun h => ?_)
      rw [hG'.1] at h
      exact absurd ((nI_leI (by omega) (by omega)).mpr (by omega)) h
    | succ m ih =>
      intro b hb I' F hs hfw hF'
      have hG' := hG.sm hs (by decide) (by decide) (by decide) (by decide)
      refine bX10_lays_118 (fun h => ?_) (fun _ => bX10_lays_126 ?_)
      · rw [hG'.1, nI_leI (by omega) (by omega)] at h; omega
      · refine inner b F (fun u w => min (F u b + F b w) (F u w)) (by omega) hfw (fun _ _ => rfl) (fun I2 hs2 hF2 => bX10_lays_206 ?_) 64 0 rfl I' hs (fun j hj => by rw [if_neg (by omega)]; exact hF' j hj)
        rw [nI_1]
        exact ih (b + 1) (by omega) I2 _ hs2 (g_fw_step (by omega) hfw (fun _ _ _ _ => rfl)) hF2
  exact bX10_lays_116 (outer n 0 (by omega) I _ hI (g_fw_0 he) hF)
theorem s_lays {n ln kind S : Nat} {lo hi c : Nat → Nat} {I : Nat → Nat → Int32} {L : Nat → Int64} {Q : Option Value → (Nat → Nat → Int32) → (Nat → Int64) → Prop} (hG : mG I n ln lo hi) (hN : g_net n ln lo hi) (hC : mC I ln kind c) (hc : g_cs ln c) (hk : kind < 2) (hS : S < 2 ^ 31)
    (K : ∀ I', Sm [3712] I I' → mFar I' (g_e ln lo hi c S) n → Q none I' L) : XS mX10_lays 0 [(0, .ref 49), (1, .int (nI kind)), (2, .int (nI S))] [] I L Q := by
  have he := g_e_ok hN hc S
  refine s_lays1 (fun I1 hs1 hF1 => s_lays2 hG hN hC hk hS hs1 hF1 (fun I2 hs2 hF2 => s_lays3 hG hN.2.1 he hs2 hF2 (fun I3 hs3 hF3 => K I3 hs3 ?_)))
  obtain ⟨F, hfw, hF⟩ := hF3
  intro u w hu hw
  have hn8 := hN.2.1
  rw [hF (8 * u + w) (by omega), show (8 * u + w) / 8 = u by omega, show (8 * u + w) % 8 = w by omega]
  congr 1
  unfold g_far
  rcases g_fw_end he hfw hu hw with ⟨h1, h2, h3⟩ | ⟨h1, h2⟩
  · rw [h2, if_neg (by omega)]
  · rw [h2, g_dst_no h1, if_pos rfl]
theorem s_nextOf {n ln kind S u w : Nat} {lo hi c : Nat → Nat} {I : Nat → Nat → Int32} {L : Nat → Int64} {Q : Option Value → (Nat → Nat → Int32) → (Nat → Int64) → Prop} (hG : mG I n ln lo hi) (hN : g_net n ln lo hi) (hC : mC I ln kind c) (hc : g_cs ln c) (hk : kind < 2) (hS : S < 2 ^ 31) (hF : mFar I (g_e ln lo hi c S) n) (hu : u < n) (hw : w < n)
    (K : Q (some (.int (i_o (g_nxt (g_e ln lo hi c S) n u w)))) I L) : XS mX10_nextOf 0 [(0, .ref 49), (1, .int (nI u)), (2, .int (nI w)), (3, .int (nI kind)), (4, .int (nI S))] [] I L Q := by
  have he := g_e_ok hN hc S
  have hn8 := hN.2.1
  have hln := hN.2.2.1
  have hfb : ∀ x, x < n → I 3712 (8 * x + w) = nI (g_far (g_e ln lo hi c S) x w) ∧ g_far (g_e ln lo hi c S) x w ≤ 9999 ∧ ((g_far (g_e ln lo hi c S) x w = 9999 ∧ g_dst (g_e ln lo hi c S) x w = 1000) ∨ (g_far (g_e ln lo hi c S) x w = g_dst (g_e ln lo hi c S) x w ∧ g_dst (g_e ln lo hi c S) x w ≤ 63)) := fun x hx => by
    refine ⟨hF x w hx hw, ?_⟩
    unfold g_far
    rcases g_dst_cases he (w := w) hx with ⟨_, h⟩ | ⟨_, h⟩
    · rw [if_neg (by omega)]; omega
    · rw [if_pos h]; omega
  have key : ∀ m v, v + m = n → (∀ j, j < v → g_nxp (g_e ln lo hi c S) u w j = false) → XS mX10_nextOf 3 [(0, .ref 49), (1, .int (nI u)), (2, .int (nI w)), (3, .int (nI kind)), (4, .int (nI S)), (5, .int (nI v))] [] I L Q := by
    intro m
    have none_ok : (∀ j, j < n → g_nxp (g_e ln lo hi c S) u w j = false) → XS mX10_nextOf 102 [] [] I L Q := fun h => by
      refine bX10_nextOf_102 ?_
      have h1 : g_nxt (g_e ln lo hi c S) n u w = none := g_fst_none.mpr h
      rw [h1] at K; exact K
    induction m with
    | zero =>
      intro v hv hj
      refine bX10_nextOf_3 (fun _ => none_ok (fun j hj' => hj j (by omega))) (fun h => ?_)
      rw [hG.1] at h
      exact absurd ((nI_leI (by omega) (by omega)).mpr (by omega)) h
    | succ m ih =>
      intro v hv hj
      have iu : (8 : Int32) * nI u + nI w = nI (8 * u + w) := by rw [i_8mul, nI_add]
      have iv : (8 : Int32) * nI v + nI w = nI (8 * v + w) := by rw [i_8mul, nI_add]
      obtain ⟨fu1, fu2, fu3⟩ := hfb u hu
      obtain ⟨fv1, fv2, fv3⟩ := hfb v (by omega)
      have vpu : vp_in ((8 : Int32) * nI u + nI w) 64 := i_vp _ iu (by omega) (by decide)
      have vpv : vp_in ((8 : Int32) * nI v + nI w) 64 := i_vp _ iv (by omega) (by decide)
      have next : g_nxp (g_e ln lo hi c S) u w v = false → XS mX10_nextOf 96 [(0, .ref 49), (1, .int (nI u)), (2, .int (nI w)), (3, .int (nI kind)), (4, .int (nI S)), (5, .int (nI v))] [] I L Q := fun hf => by
        refine bX10_nextOf_96 ?_
        rw [nI_1]
        refine ih (v + 1) (by omega) (fun j hj' => ?_)
        by_cases hjv : j = v
        · subst hjv; exact hf
        · exact hj j (by omega)
      refine bX10_nextOf_3 (fun h => ?_) (fun _ => bX10_nextOf_12 (fun h => ?_) (fun h => bX10_nextOf_17 vpu (fun h2 => ?_) (fun h2 => bX10_nextOf_34 (s_linkOf hG hN (by omega) (by omega) ?_))))
      · rw [hG.1, nI_leI (by omega) (by omega)] at h; omega
      · rw [nI_eq (by omega) (by omega)] at h
        subst h
        exact none_ok (g_fst_none.mp (g_nxt_self he u))
      · rw [iu, nI_clamp (by omega), fu1] at h2
        have h3 := (i_le 9999 _ rfl rfl (by decide) (by omega)).mp h2
        rw [nI_eq (by omega) (by omega)] at h
        refine none_ok (g_fst_none.mp ((g_nxt_none he h).mpr (fun hr => ?_)))
        have := g_dst_63 he hu hr
        omega
      · rw [iu, nI_clamp (by omega), fu1] at h2
        have h3 : ¬ 9999 ≤ g_far (g_e ln lo hi c S) u w := fun q => h2 ((i_le 9999 _ rfl rfl (by decide) (by omega)).mpr q)
        cases hlk : g_lk ln lo hi u v with
        | none =>
          refine bX10_nextOf_41 (fun _ => next ?_) (fun h4 => absurd rfl h4)
          have : g_e ln lo hi c S u v = none := by unfold g_e; rw [hlk]
          unfold g_nxp; rw [this]
        | some l =>
          have hl := g_lk_lt hN hlk
          refine bX10_nextOf_41 (fun h4 => absurd h4 (i_m1ne (by omega))) (fun _ => bX10_nextOf_49 (s_has hS (by omega) (bX10_nextOf_56 (fun h4 => next ?_) (fun h4 => bX10_nextOf_59 (s_length hC hk hl.1 hln ?_)))))
          · rw [i_b0] at h4
            have : g_e ln lo hi c S u v = none := by unfold g_e; rw [hlk]; simp [h4]
            unfold g_nxp; rw [this]
          · rw [i_b0] at h4
            have hbit : S.testBit l = true := by simpa using h4
            have hev : g_e ln lo hi c S u v = some (c l) := g_e_some.mpr ⟨l, hlk, hbit, rfl⟩
            have hcl := hc l hl.1
            have hsum : nI (c l) + nI (g_far (g_e ln lo hi c S) v w) = nI (c l + g_far (g_e ln lo hi c S) v w) := nI_add _ _
            refine bX10_nextOf_66 vpv vpu (fun h5 => next ?_) (fun h5 => bX10_nextOf_93 ?_)
            · rw [iv, iu, nI_clamp (by omega), nI_clamp (by omega), fu1, fv1, hsum, nI_eq (by omega) (by omega)] at h5
              rw [Bool.eq_false_iff, ne_eq, g_nxp_iff]
              rintro ⟨c', h6, h7⟩
              rw [hev] at h6
              cases h6
              omega
            · rw [iv, iu, nI_clamp (by omega), nI_clamp (by omega), fu1, fv1, hsum, nI_eq (by omega) (by omega)] at h5
              have : g_nxt (g_e ln lo hi c S) n u w = some v := g_fst_some.mpr ⟨by omega, g_nxp_iff.mpr ⟨c l, hev, by omega⟩, hj⟩
              rw [this] at K; exact K
  exact bX10_nextOf_0 (key n 0 (by omega) (fun j hj => by omega))
