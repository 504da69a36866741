/-! ===== the class's order, whole ===== -/
theorem k_order : kR 24 1537 1600 8 := ⟨sh_24, 25, rf_1536, sh_25, rfl, rfl, by decide, by decide⟩
theorem c_rlast {o rl ra N m : Nat} {I : Nat → Nat → Int32} {L : Nat → Int64} {Q : Option Value → (Nat → Nat → Int32) → (Nat → Int64) → Prop} (h : kR o rl ra N) (hm : I rl 0 = nI m) (hmN : m ≤ N) (K : Q (some (.int (if m = 0 then -1 else I ra (m - 1)))) I L) : XS mX6_last 0 [(0, .ref o)] [] I L Q := by
  obtain ⟨a, A, b, c, d, e, f, g⟩ := id h
  refine bX6_last_0 a (fun h1 => ?_) (fun h1 => bX6_last_7 (bX6_last_22 ?_))
  · rw [e, hm] at h1
    have h0 : m ≠ 0 := by rintro rfl; exact h1 rfl
    have e1 : nI m - (1 : Int32) = nI (m - 1) := i_sub (a := m) (b := 1) (by omega)
    refine bX6_last_11 a b c (by rw [e, hm, e1]; exact vp_in_nI (by omega) g) (bX6_last_22 ?_)
    rw [e, hm, e1, nI_clamp (by omega), d]
    rw [if_neg h0] at K
    exact K
  · rw [e, hm] at h1
    have h0 := (i_eq m 0 rfl rfl (by omega) (by decide)).mp h1
    rw [if_pos h0] at K
    exact K
/-- those on the way to the set at hand -/
def g_on (S : Nat → Nat) : Nat → Nat → Bool
  | 0, _ => false
  | d + 1, x => g_on S d x || decide (S (d + 1) = x)
theorem g_on_iff {S : Nat → Nat} : ∀ {d x : Nat}, g_on S d x = true ↔ ∃ i, i < d ∧ S (i + 1) = x := by
  intro d
  induction d with
  | zero => intro x; simp [g_on]
  | succ d ih =>
    intro x
    unfold g_on
    rw [Bool.or_eq_true, ih, decide_eq_true_eq]
    constructor
    · rintro (⟨i, a, b⟩ | h)
      · exact ⟨i, by omega, b⟩
      · exact ⟨d, by omega, h⟩
    · rintro ⟨i, a, b⟩
      by_cases hi : i = d
      · subst hi; exact Or.inr b
      · exact Or.inl ⟨i, by omega, b⟩
/-- the way to the set at hand: each step the least that isn't closed -/
def g_ch (sf : Nat → Bool) (n B : Nat) (cl : Nat → Bool) (d : Nat) (o S : Nat → Nat) : Prop := S 0 = 0 ∧ (∀ i, i < d → S (i + 1) = S i ||| 2 ^ (o i) ∧ o i < n ∧ B.testBit (o i) = true ∧ (S i).testBit (o i) = false ∧ sf (S (i + 1)) = true ∧ cl (S (i + 1)) = false ∧ ∀ v, v < o i → B.testBit v = true → (S i).testBit v = false → cl (S i ||| 2 ^ v) = true)
theorem g_ch_cnt {sf : Nat → Bool} {n B d : Nat} {cl : Nat → Bool} {o S : Nat → Nat} (h : g_ch sf n B cl d o S) : ∀ i, i ≤ d → g_cnt (fun j => (S i).testBit j) n = i ∧ S i < 2 ^ n := by
  intro i
  induction i with
  | zero => intro _; rw [h.1]; exact ⟨g_cnt_zero n, Nat.two_pow_pos n⟩
  | succ i ih =>
    intro hi
    obtain ⟨a, b⟩ := ih (by omega)
    obtain ⟨c1, c2, c3, c4, _⟩ := h.2 i (by omega)
    rw [c1]
    exact ⟨by rw [g_cnt_or c2 c4, a], g_or_lt b c2⟩
def g_cO (sf : Nat → Bool) (n B : Nat) (cl : Nat → Bool) : Prop := cl 0 = false ∧ ∀ x, cl x = true → sf x = true → ¬ g_can sf n B x
theorem g_cnt_255 {p : Nat → Bool} (h : p 0 = false) : g_cnt p 256 ≤ 255 := by
  have := g_cnt_lt_n (n := 256) (k := 0) (by omega) h
  omega
theorem c_findOrder {n ln U : Nat} {lo hi c seen : Nat → Nat} {nxU nxS : Nat → Nat → Option Nat} {I : Nat → Nat → Int32} {L : Nat → Int64} {Q : Option Value → (Nat → Nat → Int32) → (Nat → Int64) → Prop} (hG : cG I n ln lo hi) (hN : g_net n ln lo hi) (hC : cC I ln 0 c) (hc : g_cs ln c) (hU : I 66 0 = nI U) (hU2 : U < 2 ^ 31) (hseen : ∀ u, u < n → I 448 u = nI (seen u) ∧ seen u < 2 ^ 31) (hnxU : nxU = g_nxt (g_e ln lo hi c U) n) (hnxS : nxS = g_nS n ln lo hi c seen)
    (K1 : ∀ I' d o S, Sm [1088, 1152, 1216, 1408, 1344, 1472, 1600, 1537] I I' → I' 1537 0 = nI d → d ≤ 8 → (∀ i, i < d → I' 1600 i = nI (o i)) → g_ord (g_safe nxU nxS n) n (g_bh n U seen) d o S → S d = g_bh n U seen → d = g_pc n (g_bh n U seen) → Q (some (.int 1)) I' L)
    (K0 : ∀ I', Sm [1088, 1152, 1216, 1408, 1344, 1472, 1600, 1537] I I' → ¬ g_can (g_safe nxU nxS n) n (g_bh n U seen) 0 → Q (some (.int 0)) I' L) :
    XS mX4_findOrder 0 [(0, .ref 20)] [] I L Q := by
  have hn8 := hN.2.1
  have hnx : ∀ M w u v, g_FL nxU nxS M w u = some v → v < n := fun M w u v h => by
    unfold g_FL at h
    rw [hnxU, hnxS] at h
    split at h
    · exact (g_nxt_some (g_e_ok hN hc U) h).1
    · exact (g_nxt_some (g_e_ok hN hc (seen u)) h).1
  refine bX4_findOrder_0 (c_behind hG.1 hn8 hU hU2 hseen (bX4_findOrder_7 (c_lookAround hG hN hC hc hU hU2 hseen (fun I1 s1 hR1 => bX4_findOrder_14 ?_))))
  rw [← hnxU, ← hnxS] at hR1
  have hBlt : g_bh n U seen < 256 := by
    have h1 := g_mk_lt (fun u => decide (seen u ≠ U)) n
    have h2 := g_2n hn8
    unfold g_bh
    omega
  have hBbit : ∀ v, (g_bh n U seen).testBit v = true → v < n := fun v h => by
    unfold g_bh at h
    rw [g_mk_bit] at h
    simp at h
    exact h.1
  generalize hBdef : g_bh n U seen = B at K1 K0 hBlt hBbit ⊢
  generalize hsf : g_safe nxU nxS n = sf at K1 K0
  have s2 : Sm [1088, 1152, 1216, 1408, 1344, 1472, 1600, 1537] I (x_up I1 1537 0 0) := (s1.mono (by decide)).up (by decide)
  have hR2 : ∀ w, w < n → cRg (x_up I1 1537 0 0) nxU nxS n w := fun w hw x hx => by rw [x_up_ne (by decide), x_up_ne (by decide)]; exact hR1 w hw x hx
  have hl2 : (x_up I1 1537 0 0) 1537 0 = nI 0 := by rw [x_up_at]; rfl
  generalize (x_up I1 1537 0 0) = I2 at s2 hR2 hl2 ⊢
  have kn : ∀ {I' : Nat → Nat → Int32}, Sm [1472, 1600, 1537] I2 I' → I' 64 0 = nI n := fun hs => by rw [hs _ (by decide), s2 _ (by decide)]; exact hG.1
  have kR : ∀ {I' : Nat → Nat → Int32}, Sm [1472, 1600, 1537] I2 I' → ∀ w, w < n → cRg I' nxU nxS n w := fun hs w hw x hx => by rw [hs _ (by decide), hs _ (by decide)]; exact hR2 w hw x hx
  -- the turns
  have turns : ∀ k t d s cl o S I', t + k = 512 → Sm [1472, 1600, 1537] I2 I' → I' 1537 0 = nI d → (∀ i, i < d → I' 1600 i = nI (o i)) → cCl I' cl → g_cO sf n B cl → g_ch sf n B cl d o S → S d = s → t ≤ g_cnt cl 256 + g_cnt (fun x => cl x || g_on S d x) 256 → XS mX4_findOrder 48 [(0, .ref 20), (1, .int (nI B)), (2, .int (nI s)), (3, .int (nI t))] [] I' L Q := by
    intro k
    induction k with
    | zero =>
      intro t d s cl o S I' ht hs hlen hord hcl hcO hch hsd hb
      exfalso
      have h1 := g_cnt_255 (p := cl) hcO.1
      have hon : g_on S d 0 = false := by
        cases hq : g_on S d 0 with
        | false => rfl
        | true =>
          obtain ⟨i, a, b⟩ := g_on_iff.mp hq
          have := (g_ch_cnt hch (i + 1) (by omega)).1
          rw [b, g_cnt_zero] at this
          omega
      have h2 := g_cnt_255 (p := fun x => cl x || g_on S d x) (by simp [hcO.1, hon])
      omega
    | succ k ih =>
      intro t d s cl o S I' ht hs hlen hord hcl hcO hch hsd hb
      have hcn := g_ch_cnt hch
      have hsc := hcn d (Nat.le_refl _)
      rw [hsd] at hsc
      have h2n := g_2n hn8
      have hd8 : d ≤ n := by have := g_cnt_le (fun j => s.testBit j) n; omega
      refine bX4_findOrder_48 (fun h => ?_) (fun _ => bX4_findOrder_55 (fun h => ?_) (fun h => bX4_findOrder_60 ?_))
      · have := (i_le 512 t rfl rfl (by decide) (by omega)).mp h
        omega
      · rw [nI_eq (by omega) (by omega)] at h
        subst h
        have hcan : ∀ j i, i + j = d → g_can sf n s (S i) := by
          intro j
          induction j with
          | zero => intro i hi; rw [show i = d by omega, hsd]; exact ⟨0, rfl⟩
          | succ j ihj =>
            intro i hi
            obtain ⟨c1, c2, c3, c4, c5, _⟩ := hch.2 i (by omega)
            have := ihj (i + 1) (by omega)
            rw [c1] at this c5
            exact g_can_iff.mpr (Or.inr ⟨o i, c2, c3, c4, c5, this⟩)
        refine bX4_findOrder_148 (fun h => absurd rfl h) (fun _ => bX4_findOrder_153 (bX4_findOrder_158 (Or.inr rfl) (K1 I' d o S (s2.tr (hs.mono (by decide))) hlen (by omega) hord ⟨hch.1, fun i hi => ?_⟩ hsd ?_)))
        · obtain ⟨c1, c2, c3, c4, c5, c6, c7⟩ := hch.2 i hi
          have hc1 := hcan (d - (i + 1)) (i + 1) (by omega)
          refine ⟨c1, ⟨c2, c3, c4, by rw [← c1]; exact c5, by rw [← c1]; exact hc1⟩, fun v hv hnl => ?_⟩
          obtain ⟨e1, e2, e3, e4, e5⟩ := hnl
          exact hcO.2 _ (c7 v hv e2 e3) e4 e5
        · rw [g_pc_cnt]; exact hsc.1.symm
      · have hsB : s ≠ B := fun q => h (by rw [q])
        refine c_firstToLearn (B := B) (s := s) (cl := cl) (kn hs) hn8 hBlt (by omega) (kR hs) hnx hcl (fun I3 cl' v s3 h1 h2 h3 h4 h5 h6 h7 h8 h9 => ?_) (fun I3 cl' s3 h1 h2 h3 h4 => ?_)
        · -- a node learns
          rw [hsf] at h3 h7
          have hs3 : Sm [1472, 1600, 1537] I2 I3 := hs.tr (s3.mono (by decide))
          have hvs : g_cnt (fun j => (s ||| 2 ^ v).testBit j) n = d + 1 := by rw [g_cnt_or h4 h6, hsc.1]
          have hd1 : d + 1 ≤ n := by have := g_cnt_le (fun j => (s ||| 2 ^ v).testBit j) n; omega
          refine bX4_findOrder_66 (fun q => absurd q (i_m1ne (by omega))) (fun _ => bX4_findOrder_74 (c_rput' k_order (m := d) (by rw [s3 _ (by decide)]; exact hlen) (by omega) (bX4_findOrder_83 (bX4_findOrder_142 ?_))))
          rw [i_1shl (by omega), i_or, nI_1]
          obtain ⟨o', p1, p2⟩ : ∃ o' : Nat → Nat, o' d = v ∧ ∀ i, i ≠ d → o' i = o i := ⟨fun i => if i = d then v else o i, by simp, fun i hi => by simp [hi]⟩
          obtain ⟨S', q1, q2⟩ : ∃ S' : Nat → Nat, S' (d + 1) = s ||| 2 ^ v ∧ ∀ i, i ≠ d + 1 → S' i = S i := ⟨fun i => if i = d + 1 then s ||| 2 ^ v else S i, by simp, fun i hi => by simp [hi]⟩
          have hnew : cl' (s ||| 2 ^ v) = false := by
            cases hq : cl' (s ||| 2 ^ v) with
            | false => rfl
            | true =>
              rcases h3 _ hq with r | r
              · rw [h8] at r; cases r
              · rw [h7] at r; cases r.1
          have hoff : ∀ i, i < d → S (i + 1) ≠ s ||| 2 ^ v := fun i hi q => by
            have := (hcn (i + 1) (by omega)).1
            rw [q, hvs] at this
            omega
          refine ih (t + 1) (d + 1) (s ||| 2 ^ v) cl' o' S' _ (by omega) ((hs3.up (by decide)).up (by decide)) (by rw [x_up_at]) (fun i hi => ?_) (fun x hx => by rw [x_up_ne (by decide), x_up_ne (by decide)]; exact h1 x hx) ⟨?_, fun x hx hsx => ?_⟩ ⟨by rw [q2 0 (by omega)]; exact hch.1, fun i hi => ?_⟩ q1 ?_
          · rw [x_up_ne (by decide)]
            by_cases hid : i = d
            · subst hid; rw [x_up_at, p1]
            · rw [x_up_off hid, s3 _ (by decide), p2 i hid]; exact hord i (by omega)
          · cases hq : cl' 0 with
            | false => rfl
            | true =>
              rcases h3 _ hq with r | r
              · rw [hcO.1] at r; cases r
              · exact absurd rfl r.2
          · rcases h3 x hx with r | r
            · exact hcO.2 x r hsx
            · rw [hsx] at r; cases r.1
          · by_cases hid : i = d
            · subst hid
              rw [q1, q2 i (by omega), p1, hsd]
              exact ⟨rfl, h4, h5, h6, h7, hnew, h9⟩
            · obtain ⟨c1, c2, c3, c4, c5, c6, c7⟩ := hch.2 i (by omega)
              rw [q2 (i + 1) (by omega), q2 i (by omega), p2 i hid]
              refine ⟨c1, c2, c3, c4, c5, ?_, fun u a b c => h2 _ (c7 u a b c)⟩
              cases hq : cl' (S (i + 1)) with
              | false => rfl
              | true =>
                rcases h3 _ hq with r | r
                · rw [c6] at r; cases r
                · rw [c5] at r; cases r.1
          · have m1 : g_cnt cl 256 ≤ g_cnt cl' 256 := g_cnt_mono (fun i _ hq => h2 i hq)
            have hon : g_on S d (s ||| 2 ^ v) = false := by
              cases hq : g_on S d (s ||| 2 ^ v) with
              | false => rfl
              | true =>
                obtain ⟨i, a, b⟩ := g_on_iff.mp hq
                exact absurd b (hoff i a)
            have m2 : g_cnt (fun x => cl x || g_on S d x) 256 < g_cnt (fun x => cl' x || g_on S' (d + 1) x) 256 := by
              refine g_cnt_lt (fun x _ hq => ?_) (k := s ||| 2 ^ v) (g_or_lt (n := 8) (by omega) (by omega)) (by simp [h8, hon]) ?_
              · simp only [Bool.or_eq_true] at hq ⊢
                rcases hq with hq | hq
                · exact Or.inl (h2 x hq)
                · obtain ⟨i, a, b⟩ := g_on_iff.mp hq
                  exact Or.inr (g_on_iff.mpr ⟨i, by omega, by rw [q2 (i + 1) (by omega)]; exact b⟩)
              · simp only [Bool.or_eq_true]
                exact Or.inr (g_on_iff.mpr ⟨d, by omega, q1⟩)
            omega
        · -- none may learn
          rw [hsf] at h3
          have hs3 : Sm [1472, 1600, 1537] I2 I3 := hs.tr (s3.mono (by decide))
          have hl3 : I3 1537 0 = nI d := by rw [s3 _ (by decide)]; exact hlen
          have hcO' : g_cO sf n B cl' := by
            refine ⟨?_, fun x hx hsx => ?_⟩
            · cases hq : cl' 0 with
              | false => rfl
              | true =>
                rcases h3 _ hq with r | r
                · rw [hcO.1] at r; cases r
                · exact absurd rfl r.2
            · rcases h3 x hx with r | r
              · exact hcO.2 x r hsx
              · rw [hsx] at r; cases r.1
          have hno : ¬ g_can sf n B s := fun q => by
            rcases g_can_iff.mp q with r | ⟨v, a1, a2, a3, a4, a5⟩
            · exact hsB r
            · exact hcO'.2 _ (h4 v a1 a2 a3) a4 a5
          refine bX4_findOrder_66 (fun _ => bX4_findOrder_93 (fun h0 => bX4_findOrder_140 ?_) (fun h0 => ?_)) (fun q => absurd rfl q)
          · have h0' : I3 1537 0 ≤ nI 0 := h0
            rw [hl3, nI_leI (by omega) (by omega)] at h0'
            have hd0 : d = 0 := by omega
            rw [hd0, hch.1] at hsd
            refine K0 I3 (s2.tr (hs3.mono (by decide))) ?_
            rw [hsd]; exact hno
          · have h0' : ¬ I3 1537 0 ≤ nI 0 := h0
            rw [hl3, nI_leI (by omega) (by omega)] at h0'
            refine bX4_findOrder_103 (vp_in_nI (by omega) (by decide)) ?_
            rw [nI_clamp (by omega)]
            obtain ⟨dm, rfl⟩ : ∃ dm, d = dm + 1 := ⟨d - 1, by omega⟩
            obtain ⟨c1, c2, c3, c4, c5, c6, c7⟩ := hch.2 dm (by omega)
            have hl4 : (x_up I3 1472 s 1) 1537 0 = nI (dm + 1) := by rw [x_up_ne (by decide)]; exact hl3
            refine c_rlast k_order hl4 (by omega) ?_
            rw [if_neg (by omega), show dm + 1 - 1 = dm by omega, x_up_ne (by decide), s3 _ (by decide), hord dm (by omega)]
            refine bX4_findOrder_119 ?_
            have hw : nI s &&& (((1 : Int32) <<< (nI (o dm) &&& 31)) ^^^ (-1)) = nI (S dm) := by
              rw [i_wo (by omega), ← hsd, c1, g_wo_or (by omega) c4 (by have := (hcn dm (by omega)).2; omega)]
            have hlm : (x_up I3 1472 s 1) 1537 0 - (1 : Int32) = nI dm := by
              rw [show (x_up I3 1472 s 1) 1537 0 = nI (dm + 1) from hl4, nI_pred]
            rw [hw, hlm]
            refine bX4_findOrder_142 ?_
            rw [nI_1]
            obtain ⟨cl2, e1, e2⟩ : ∃ cl2 : Nat → Bool, cl2 s = true ∧ ∀ x, x ≠ s → cl2 x = cl' x := ⟨fun x => if x = s then true else cl' x, by simp, fun x hx => by simp [hx]⟩
            have up2 : ∀ x, cl' x = true → cl2 x = true := fun x hx => by
              by_cases hxs : x = s
              · subst hxs; exact e1
              · rw [e2 x hxs]; exact hx
            have hs0 : s ≠ 0 := by
              rintro rfl
              rw [g_cnt_zero] at hsc
              omega
            have hsS : S (dm + 1) = s := hsd
            have hcls : cl' s = false := by
              cases hq : cl' s with
              | false => rfl
              | true =>
                rcases h3 _ hq with r | r
                · rw [← hsS, c6] at r; cases r
                · rw [← hsS, c5] at r; cases r.1
            refine ih (t + 1) dm (S dm) cl2 o S _ (by omega) ((hs3.up (by decide)).up (by decide)) (by rw [x_up_at]) (fun i hi => ?_) (fun x hx => ?_) ⟨?_, fun x hx hsx => ?_⟩ ⟨hch.1, fun i hi => ?_⟩ rfl ?_
            · rw [x_up_ne (by decide), x_up_ne (by decide), s3 _ (by decide)]; exact hord i (by omega)
            · rw [x_up_ne (by decide)]
              by_cases hxs : x = s
              · subst hxs; rw [x_up_at, e1]; rfl
              · rw [x_up_off hxs, e2 x hxs]; exact h1 x hx
            · rw [e2 0 (fun q => hs0 q.symm)]; exact hcO'.1
            · by_cases hxs : x = s
              · subst hxs; exact hno
              · rw [e2 x hxs] at hx; exact hcO'.2 x hx hsx
            · obtain ⟨b1, b2, b3, b4, b5, b6, b7⟩ := hch.2 i (by omega)
              refine ⟨b1, b2, b3, b4, b5, ?_, fun u a b c => up2 _ (h2 _ (b7 u a b c))⟩
              have hne : S (i + 1) ≠ s := fun q => by
                have := (hcn (i + 1) (by omega)).1
                rw [q, hsc.1] at this
                omega
              rw [e2 _ hne]
              cases hq : cl' (S (i + 1)) with
              | false => rfl
              | true =>
                rcases h3 _ hq with r | r
                · rw [b6] at r; cases r
                · rw [b5] at r; cases r.1
            · have m1 : g_cnt cl 256 < g_cnt cl2 256 := g_cnt_lt (fun i _ hq => up2 i (h2 i hq)) (k := s) (by omega) (by
                cases hq : cl s with
                | false => rfl
                | true => rw [h2 s hq] at hcls; cases hcls) e1
              have m2 : g_cnt (fun x => cl x || g_on S (dm + 1) x) 256 ≤ g_cnt (fun x => cl2 x || g_on S dm x) 256 := by
                refine g_cnt_mono (fun x _ hq => ?_)
                simp only [Bool.or_eq_true] at hq ⊢
                rcases hq with hq | hq
                · exact Or.inl (up2 x (h2 x hq))
                · obtain ⟨i, a, b⟩ := g_on_iff.mp hq
                  by_cases hid : i = dm
                  · subst hid
                    rw [hsS] at b
                    subst b
                    exact Or.inl e1
                  · exact Or.inr (g_on_iff.mpr ⟨i, by omega, b⟩)
              omega
  -- the closed sets, all open at first
  have opens : ∀ k x I', x + k = 256 → Sm [1472, 1600, 1537] I2 I' → I' 1537 0 = nI 0 → (∀ y, y < x → I' 1472 y = 0) → XS mX4_findOrder 24 [(0, .ref 20), (1, .int (nI B)), (2, .int (nI 0)), (3, .int (nI x))] [] I' L Q := by
    intro k
    induction k with
    | zero =>
      intro x I' hx hs hl h
      refine bX4_findOrder_24 (fun _ => bX4_findOrder_46 ?_) (fun h => ?_)
      · exact turns 512 0 0 0 (fun _ => false) (fun _ => 0) (fun _ => 0) I' (by omega) hs hl (fun i hi => by omega) (fun y hy => h y (by omega)) ⟨rfl, fun y hy => by cases hy⟩ ⟨rfl, fun i hi => by omega⟩ rfl (by omega)
      · exact absurd ((i_le 256 x rfl rfl (by decide) (by omega)).mpr (by omega)) h
    | succ k ih =>
      intro x I' hx hs hl h
      refine bX4_findOrder_24 (fun h => ?_) (fun _ => bX4_findOrder_33 (vp_in_nI (by omega) (by decide)) ?_)
      · have := (i_le 256 x rfl rfl (by decide) (by omega)).mp h; omega
      · rw [nI_clamp (by omega), nI_1]
        refine ih (x + 1) _ (by omega) (hs.up (by decide)) (by rw [x_up_ne (by decide)]; exact hl) (fun y hy => ?_)
        by_cases hyx : y = x
        · subst hyx; rw [x_up_at]
        · rw [x_up_off hyx]; exact h y (by omega)
  exact opens 256 0 I2 (by omega) Sm.rf hl2 (fun y hy => by omega)
