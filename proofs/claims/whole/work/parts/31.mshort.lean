/-! ===== the reference's short list ===== -/
theorem s_leads {n ln kind S a N m i j : Nat} {lo hi c W : Nat → Nat} {I : Nat → Nat → Int32} {L : Nat → Int64} {Q : Option Value → (Nat → Nat → Int32) → (Nat → Int64) → Prop} (hG : mG I n ln lo hi) (hN : g_net n ln lo hi) (hC : mC I ln kind c) (hc : g_cs ln c) (hk : kind < 2) (hS : S < 2 ^ 31) (hF : mFar I (g_e ln lo hi c S) n)
    (ha : x_SH[a]? = some (1, N)) (hmN : m ≤ N) (hN2 : N < 2 ^ 30) (hW : ∀ p, p < m → I (64 * a) p = nI (W p) ∧ W p < n) (hij : i < j) (hjm : j < m)
    (K : Q (some (.int (i_b (g_p (g_ld (g_nxt (g_e ln lo hi c S) n) W i j))))) I L) : XS mX10_leads 0 [(0, .ref 49), (1, .ref a), (2, .int (nI i)), (3, .int (nI j)), (4, .int (nI kind)), (5, .int (nI S))] [] I L Q := by
  have hn8 := hN.2.1
  have wj := hW j hjm
  have key : ∀ d p, p + d = j → i ≤ p → (∀ q, i ≤ q → q < p → g_nxt (g_e ln lo hi c S) n (W q) (W j) = some (W (q + 1))) → XS mX10_leads 3 [(0, .ref 49), (1, .ref a), (3, .int (nI j)), (4, .int (nI kind)), (5, .int (nI S)), (6, .int (nI p))] [] I L Q := by
    intro d
    induction d with
    | zero =>
      intro p hp hip hall
      have hpj : p = j := by omega
      refine bX10_leads_3 (fun _ => bX10_leads_39 (fun h => absurd (by rw [hpj]) h) (fun _ => bX10_leads_45 (bX10_leads_50 (Or.inr rfl) ?_))) (fun h => ?_)
      · have : g_p (g_ld (g_nxt (g_e ln lo hi c S) n) W i j) = true := g_p_iff.mpr (fun q h1 h2 => hall q h1 (by omega))
        rw [this] at K; exact K
      · exact absurd ((nI_leI (by omega) (by omega)).mpr (by omega)) h
    | succ d ih =>
      intro p hp hip hall
      have wp := hW p (by omega)
      have wp1 := hW (p + 1) (by omega)
      refine bX10_leads_3 (fun h => ?_) (fun _ => bX10_leads_9 ha (vp_in_nI (by omega) (by omega)) (vp_in_nI (by omega) (by omega)) ?_)
      · rw [nI_leI (by omega) (by omega)] at h; omega
      · rw [nI_clamp (by omega), nI_clamp (by omega), wp.1, wj.1]
        refine s_nextOf hG hN hC hc hk hS hF wp.2 wj.2 (bX10_leads_24 ha (i_vp (p + 1) (nI_1 p) (by omega) (by omega)) (fun h => bX10_leads_39 (fun _ => bX10_leads_49 (bX10_leads_50 (Or.inl rfl) ?_)) (fun h2 => ?_)) (fun h => bX10_leads_33 ?_))
        · rw [i_cl (p + 1) (nI_1 p) (by omega), wp1.1] at h
          have : g_p (g_ld (g_nxt (g_e ln lo hi c S) n) W i j) = false := g_p_f.mpr (fun q => by
            have := q p hip (by omega)
            rw [this] at h; exact h rfl)
          rw [this] at K; exact K
        · rw [nI_eq (by omega) (by omega)] at h2; omega
        · rw [i_cl (p + 1) (nI_1 p) (by omega), wp1.1] at h
          rw [nI_1]
          refine ih (p + 1) (by omega) (by omega) (fun q h1 h2 => ?_)
          by_cases hqp : q = p
          · subst hqp
            cases hx : g_nxt (g_e ln lo hi c S) n (W q) (W j) with
            | none => rw [hx] at h; exact absurd h.symm (i_m1ne (by omega))
            | some y =>
              rw [hx] at h
              have hy := (g_nxt_some (g_e_ok hN hc S) hx).1
              have : y = W (q + 1) := (nI_eq (by omega) (by omega)).mp h
              rw [this]
          · exact hall q h1 (by omega)
  exact bX10_leads_0 (key (j - i) i (by omega) (Nat.le_refl _) (fun q h1 h2 => by omega))
def mB (I : Nat → Nat → Int32) (B : Nat → Nat → Option Nat) : Prop := ∀ i j, i < 8 → j < 8 → I 3840 (8 * i + j) = i_o (B i j)
/-- one kind over all pairs of places -/
theorem s_byKind {n ln S a N m kinds kind : Nat} {lo hi W : Nat → Nat} {I0 : Nat → Nat → Int32} {L : Nat → Int64} {Q : Option Value → (Nat → Nat → Int32) → (Nat → Int64) → Prop} (hm8 : m ≤ 8) (hmN : m ≤ N) (hN2 : N < 2 ^ 30) (ha : x_SH[a]? = some (1, N)) (hG : mG I0 n ln lo hi) (hN : g_net n ln lo hi) (hkk : kinds < 8) (hkind : kind < 3) (hbit : kinds.testBit kind = true) (hW : ∀ p, p < m → I0 (64 * a) p = nI (W p) ∧ W p < n) (ha1 : 64 * a ≠ 3840) (ha2 : 64 * a ≠ 3712)
    (P : Nat → Nat → Bool)
    (body : ∀ I' i j lv, Sm [3712, 3840] I0 I' → I' 3712 = I0 3712 → i < j → j < m → lv = g_lk ln lo hi (W i) (W j) → XS mX10_laysBy 140 [(0, .ref 49), (1, .ref a), (2, .int (nI m)), (3, .int (nI S)), (4, .int (nI kinds)), (5, .int (nI kind)), (6, .int (nI i)), (7, .int (nI j))] [.int (i_b (P i j))] I' L Q → XS mX10_laysBy 88 [(0, .ref 49), (1, .ref a), (2, .int (nI m)), (3, .int (nI S)), (4, .int (nI kinds)), (5, .int (nI kind)), (6, .int (nI i)), (7, .int (nI j))] [.int (i_o lv)] I' L Q)
    (B : Nat → Nat → Option Nat) (hB : mB I0 B)
    (K : ∀ I', Sm [3712, 3840] I0 I' → I' 3712 = I0 3712 → mB I' (fun i j => if i < j ∧ j < m ∧ P i j = true then some kind else B i j) → XS mX10_laysBy 190 [(0, .ref 49), (1, .ref a), (2, .int (nI m)), (3, .int (nI S)), (4, .int (nI kinds)), (5, .int (nI kind))] [] I' L Q) :
    XS mX10_laysBy 45 [(0, .ref 49), (1, .ref a), (2, .int (nI m)), (3, .int (nI S)), (4, .int (nI kinds)), (5, .int (nI kind))] [] I0 L Q := by
  have hn8 := hN.2.1
  have keepG : ∀ {I'}, Sm [3712, 3840] I0 I' → mG I' n ln lo hi := fun hs => hG.sm hs (by decide) (by decide) (by decide) (by decide)
  have keepW : ∀ {I'}, Sm [3712, 3840] I0 I' → ∀ p, p < m → I' (64 * a) p = nI (W p) ∧ W p < n := fun hs p hp => by
    rw [hs (64 * a) (by simp; exact ⟨ha2, ha1⟩)]; exact hW p hp
  have inner : ∀ i, i < m → (∀ I', Sm [3712, 3840] I0 I' → I' 3712 = I0 3712 → mB I' (fun x y => if x < y ∧ y < m ∧ P x y = true ∧ x < i + 1 then some kind else B x y) → XS mX10_laysBy 184 [(0, .ref 49), (1, .ref a), (2, .int (nI m)), (3, .int (nI S)), (4, .int (nI kinds)), (5, .int (nI kind)), (6, .int (nI i))] [] I' L Q) →
      ∀ d j, j + d = m → i < j → ∀ I', Sm [3712, 3840] I0 I' → I' 3712 = I0 3712 → mB I' (fun x y => if x < y ∧ y < m ∧ P x y = true ∧ (x < i ∨ (x = i ∧ y < j)) then some kind else B x y) → XS mX10_laysBy 70 [(0, .ref 49), (1, .ref a), (2, .int (nI m)), (3, .int (nI S)), (4, .int (nI kinds)), (5, .int (nI kind)), (6, .int (nI i)), (7, .int (nI j))] [] I' L Q := by
    intro i him KK d
    induction d with
    | zero =>
      intro j hj hij I' hs hf hB'
      refine bX10_laysBy_70 (fun _ => KK I' hs hf (fun x y hx hy => ?_)) (fun h => ?_)
      · rw [hB' x y hx hy]
        congr 1
        have : (x < y ∧ y < m ∧ P x y = true ∧ (x < i ∨ (x = i ∧ y < j))) ↔ (x < y ∧ y < m ∧ P x y = true ∧ x < i + 1) := by
          constructor
          · rintro ⟨p1, p2, p3, p4⟩; exact ⟨p1, p2, p3, by omega⟩
          · rintro ⟨p1, p2, p3, p4⟩; exact ⟨p1, p2, p3, by omega⟩
        simp only [this]
      · exact absurd ((nI_leI (by omega) (by omega)).mpr (by omega)) h
    | succ d ih =>
      intro j hj hij I' hs hf hB'
      have wi := keepW hs i him
      have wj := keepW hs j (by omega)
      have hix : (8 : Int32) * nI i + nI j = nI (8 * i + j) := by rw [i_8mul, nI_add]
      have hvp : vp_in (nI (8 * i + j)) 64 := vp_in_nI (by omega) (by decide)
      have put : ∀ (o : Option Nat), (o = if P i j = true then some kind else B i j) → XS mX10_laysBy 177 [(0, .ref 49), (1, .ref a), (2, .int (nI m)), (3, .int (nI S)), (4, .int (nI kinds)), (5, .int (nI kind)), (6, .int (nI i)), (7, .int (nI j))] [.int (i_o o), .int (nI (8 * i + j)), .ref 60] I' L Q := fun o ho => by
        refine bX10_laysBy_177 hvp ?_
        rw [nI_1, nI_clamp (by omega)]
        refine ih (j + 1) (by omega) (by omega) _ (hs.up (by simp)) (by rw [x_up_ne (by decide)]; exact hf) (fun x y hx hy => ?_)
        by_cases hxy : x = i ∧ y = j
        · obtain ⟨rfl, rfl⟩ := hxy
          rw [x_up_at, ho]
          congr 1
          dsimp only
          by_cases hp : P x y = true
          · rw [if_pos hp, if_pos ⟨by omega, by omega, hp, by omega⟩]
          · rw [if_neg hp, if_neg (fun q => hp q.2.2.1)]
        · rw [x_up_off (by omega), hB' x y hx hy]
          congr 1
          have : (x < y ∧ y < m ∧ P x y = true ∧ (x < i ∨ (x = i ∧ y < j))) ↔ (x < y ∧ y < m ∧ P x y = true ∧ (x < i ∨ (x = i ∧ y < j + 1))) := by
            constructor
            · rintro ⟨p1, p2, p3, p4⟩; exact ⟨p1, p2, p3, by omega⟩
            · rintro ⟨p1, p2, p3, p4⟩; exact ⟨p1, p2, p3, by omega⟩
          simp only [this]
      refine bX10_laysBy_70 (fun h => ?_) (fun _ => bX10_laysBy_76 ha (vp_in_nI (by omega) (by omega)) (vp_in_nI (by omega) (by omega)) ?_)
      · rw [nI_leI (by omega) (by omega)] at h; omega
      · rw [nI_clamp (by omega), nI_clamp (by omega), wi.1, wj.1]
        refine s_linkOf (keepG hs) hN (by omega) (by omega) ?_
        refine body I' i j _ hs hf hij (by omega) rfl (bX10_laysBy_140 (fun h => ?_) (fun h => ?_))
        · rw [i_b0] at h
          rw [hix]
          refine bX10_laysBy_164 (i_vp _ hix (by omega) (by decide)) ?_
          rw [hix, nI_clamp (by omega), hB' i j (by omega) (by omega)]
          dsimp only
          rw [if_neg (by omega)]
          exact put (B i j) (by rw [h]; rfl)
        · rw [i_b0] at h
          rw [hix]
          refine bX10_laysBy_159 ?_
          exact put (some kind) (by rw [if_pos (by simpa using h)])
  have outer : ∀ d i, i + d = m → ∀ I', Sm [3712, 3840] I0 I' → I' 3712 = I0 3712 → mB I' (fun x y => if x < y ∧ y < m ∧ P x y = true ∧ x < i then some kind else B x y) → XS mX10_laysBy 48 [(0, .ref 49), (1, .ref a), (2, .int (nI m)), (3, .int (nI S)), (4, .int (nI kinds)), (5, .int (nI kind)), (6, .int (nI i))] [] I' L Q := by
    intro d
    induction d with
    | zero =>
      intro i hi I' hs hf hB'
      refine bX10_laysBy_48 (fun _ => K I' hs hf (fun x y hx hy => ?_)) (fun h => ?_)
      · rw [hB' x y hx hy]
        congr 1
        have : (x < y ∧ y < m ∧ P x y = true ∧ x < i) ↔ (x < y ∧ y < m ∧ P x y = true) := by
          constructor
          · rintro ⟨p1, p2, p3, p4⟩; exact ⟨p1, p2, p3⟩
          · rintro ⟨p1, p2, p3⟩; exact ⟨p1, p2, p3, by omega⟩
        simp only [this]
      · exact absurd ((nI_leI (by omega) (by omega)).mpr (by omega)) h
    | succ d ih =>
      intro i hi I' hs hf hB'
      refine bX10_laysBy_48 (fun h => ?_) (fun _ => bX10_laysBy_54 (s_has (by omega) (by omega) (bX10_laysBy_61 (fun h => ?_) (fun _ => bX10_laysBy_64 ?_))))
      · rw [nI_leI (by omega) (by omega)] at h; omega
      · rw [i_b0, hbit] at h; cases h
      · rw [nI_1]
        refine inner i (by omega) (fun I2 hs2 hf2 hB2 => bX10_laysBy_184 ?_) (m - (i + 1)) (i + 1) (by omega) (by omega) I' hs hf (fun x y hx hy => ?_)
        · rw [nI_1]
          exact ih (i + 1) (by omega) I2 hs2 hf2 hB2
        · rw [hB' x y hx hy]
          congr 1
          have : (x < y ∧ y < m ∧ P x y = true ∧ x < i) ↔ (x < y ∧ y < m ∧ P x y = true ∧ (x < i ∨ (x = i ∧ y < i + 1))) := by
            constructor
            · rintro ⟨p1, p2, p3, p4⟩; exact ⟨p1, p2, p3, by omega⟩
            · rintro ⟨p1, p2, p3, p4⟩; exact ⟨p1, p2, p3, by omega⟩
          simp only [this]
  refine bX10_laysBy_45 (outer m 0 (by omega) I0 Sm.rf rfl (fun x y hx hy => ?_))
  rw [hB x y hx hy]
  dsimp only
  rw [if_neg (by omega)]
