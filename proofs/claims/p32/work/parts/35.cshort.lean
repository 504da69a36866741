/-! ===== the class's short list, whole ===== -/
theorem g_sfi_congr {by_ : Nat → Nat → Option Nat} {m : Nat} {f f' : Nat → Nat} {i : Nat} (e : ∀ x, i ≤ x → x < m → f' x = f x) (him : i < m) (h : g_sfi by_ m f i) : g_sfi by_ m f' i := by
  obtain ⟨a, b, c⟩ := h
  refine ⟨by rw [e i (Nat.le_refl _) him]; exact a, fun j h1 h2 h3 h4 => ?_, fun hv => ?_⟩
  · rw [e j (by omega) h2] at h4 ⊢
    rw [e i (Nat.le_refl _) him]
    exact b j h1 h2 h3 h4
  · rw [e i (Nat.le_refl _) him] at hv ⊢
    obtain ⟨j, h1, h2, h3, h4, h5⟩ := c hv
    exact ⟨j, h1, h2, h3, by rw [e j (by omega) h2]; exact h4, by rw [e j (by omega) h2]; exact h5⟩
theorem g_jp_congr' {by_ : Nat → Nat → Option Nat} {m : Nat} {f f' : Nat → Nat} {i j : Nat} (e : ∀ x, i ≤ x → x < m → f' x = f x) (h : g_jp by_ m f i j) : g_jp by_ m f' i j := by
  obtain ⟨a, b, c, d, g⟩ := h
  refine ⟨a, b, c, by rw [e j (by omega) b, e i (by omega) (by omega)]; exact d, fun j' h1 h2 => ?_⟩
  rw [e j' (by omega) h2, e i (by omega) (by omega)]
  exact g j' h1 h2
def cSL (I : Nat → Nat → Int32) (ln : Nat) (lo hi : Nat → Nat) (W : Nat → Nat) (by_ : Nat → Nat → Option Nat) (T : Nat) (ps : Nat → Nat) : Prop := I 2562 0 = nI T ∧ ∀ t, t < T → I 2624 t = i_o (by_ (ps t) (ps (t + 1))) ∧ I 2688 t = nI (g_wt ln lo hi W by_ (ps t) (ps (t + 1)))
theorem c_writeFound {n ln S m : Nat} {d1 : Bool} {lo hi W f : Nat → Nat} {nx0 nx1 : Nat → Nat → Option Nat} {by_ : Nat → Nat → Option Nat} {I : Nat → Nat → Int32} {L : Nat → Int64} {Q : Option Value → (Nat → Nat → Int32) → (Nat → Int64) → Prop} (hm8 : m ≤ 8) (hm0 : 0 < m) (hN : g_net n ln lo hi) (hlen : I 2049 0 = nI m) (hW : ∀ p, p < m → I 2112 p = nI (W p) ∧ W p < n) (hby : by_ = g_by nx0 nx1 d1 ln lo hi S W)
    (hl : ∀ p, p + 1 < m → I 2304 p = i_o (g_li ln lo hi S W p)) (hsf : g_sf by_ m f) (hf0 : f 0 < 1000) (hch : ∀ p, p + 1 < m → cCh I by_ m f p)
    (K : ∀ I' T ps, Sm [2562, 2624, 2688] I I' → g_sl by_ m f T ps → T < 8 → cSL I' ln lo hi W by_ T ps → Q none I' L) : XS mX0_writeFound 0 [(0, .ref 31)] [] I L Q := by
  have by3 : ∀ i j k, by_ i j = some k → k < 3 := fun i j k h => by rw [hby] at h; exact g_by_lt h
  have key : ∀ d t ps I', ps t + d + 1 = m → ps 0 = 0 → (∀ s, s < t → g_jp by_ m f (ps s) (ps (s + 1))) → Sm [2562, 2624, 2688] I I' → cSL I' ln lo hi W by_ t ps →
      XS mX0_writeFound 12 [(0, .ref 31), (1, .int (nI (ps t))), (2, .int (nI t))] [] I' L Q := by
    intro d
    induction d using Nat.strongRecOn with
    | ind d ih =>
      intro t ps I' hd h0 hjp hs hsl
      have hft := g_sl_f hjp h0 t (Nat.le_refl _)
      have em1 : I' 2049 0 - (1 : Int32) = nI (m - 1) := by
        rw [hs _ (by decide), hlen]; exact i_sub (a := m) (b := 1) (by omega)
      refine bX0_writeFound_12 (fun h => ?_) (fun _ => bX0_writeFound_18 (fun h => ?_) (fun h => ?_))
      · have := (i_le 8 t rfl rfl (by decide) (by omega)).mp h
        omega
      · rw [em1, nI_leI (by omega) (by omega)] at h
        exact bX0_writeFound_100 (K I' t ps hs ⟨h0, by omega, hjp⟩ (by omega) hsl)
      · rw [em1, nI_leI (by omega) (by omega)] at h
        have hfb : f (ps t) < 1000 := by omega
        obtain ⟨e1, e2⟩ := hch (ps t) (by omega)
        obtain ⟨g, e3, e4, e5⟩ := e2 hfb
        obtain ⟨q1, q2, q3, q4, q5⟩ := id e5
        have hvp : vp_in (nI (ps t)) 8 := vp_in_nI (by omega) (by decide)
        have k1 : I' 2496 (ps t) = i_o (by_ (ps t) g) := by rw [hs _ (by decide)]; exact e4
        have k2 : I' 2432 (ps t) = nI g := by rw [hs _ (by decide)]; exact e3
        have k3 : I' 2304 (ps t) = i_o (g_li ln lo hi S W (ps t)) := by rw [hs _ (by decide)]; exact hl (ps t) (by omega)
        have goOn : XS mX0_writeFound 84 [(0, .ref 31), (1, .int (nI (ps t))), (2, .int (nI t))] [.int (nI (g_wt ln lo hi W by_ (ps t) g)), .int (I' 2496 (ps t)), .ref 40] I' L Q := by
          refine bX0_writeFound_84 (c_sput (o := 40) (ra := 2624) (rb := 2688) (rl := 2562) (k := t) sh_40 rf_2560 rf_2561 sh_41 sh_42 rfl rfl rfl (by decide) (by decide) hsl.1 (by omega) (by decide) (bX0_writeFound_87 hvp ?_))
          rw [nI_clamp (by omega), x_up_ne (by decide), x_up_ne (by decide), x_up_ne (by decide), k2, nI_1]
          obtain ⟨ps', f1, f2⟩ : ∃ ps' : Nat → Nat, (∀ s, s ≤ t → ps' s = ps s) ∧ ps' (t + 1) = g := ⟨fun s => if s ≤ t then ps s else g, fun s hs => by simp [hs], by simp; omega⟩
          have := ih (m - 1 - g) (by omega) (t + 1) ps' (x_up (x_up (x_up I' 2624 t (I' 2496 (ps t))) 2688 t (nI (g_wt ln lo hi W by_ (ps t) g))) 2562 0 (nI (t + 1))) (by rw [f2]; omega) (by rw [f1 0 (by omega)]; exact h0) (fun s hs' => by
              by_cases hst : s = t
              · subst hst; rw [f1 s (by omega), f2]; exact e5
              · rw [f1 s (by omega), f1 (s + 1) (by omega)]; exact hjp s (by omega)) (((hs.up (by simp)).up (by simp)).up (by simp)) ⟨by rw [x_up_at], fun s hs' => ?_⟩
          · rw [f2] at this; exact this
          · by_cases hst : s = t
            · subst hst
              rw [f1 s (by omega), f2]
              exact ⟨by rw [x_up_ne (by decide), x_up_ne (by decide), x_up_at, k1], by rw [x_up_ne (by decide), x_up_at]⟩
            · rw [f1 s (by omega), f1 (s + 1) (by omega)]
              have a1 := hsl.2 s (by omega)
              exact ⟨by rw [x_up_ne (by decide), x_up_ne (by decide), x_up_off hst]; exact a1.1, by rw [x_up_ne (by decide), x_up_off hst, x_up_ne (by decide)]; exact a1.2⟩
        refine bX0_writeFound_31 hvp (fun h2 => bX0_writeFound_45 (bX0_writeFound_46 hvp (fun _ => bX0_writeFound_70 hvp (by rw [nI_clamp (by omega), k2]; exact vp_in_nI (by omega) (by decide)) ?_) (fun h3 => absurd rfl h3))) (fun h2 => bX0_writeFound_41 (bX0_writeFound_46 hvp (fun h3 => absurd h3 (by decide)) (fun _ => bX0_writeFound_61 hvp ?_)))
        · rw [nI_clamp (by omega), k1] at h2
          have hw : g_wt ln lo hi W by_ (ps t) g = W g := by
            unfold g_wt
            rw [if_neg]
            intro hb; rw [hb] at h2; exact h2 rfl
          rw [nI_clamp (by omega), k2, nI_clamp (by omega), hs 2112 (by decide), (hW g q2).1, ← hw]
          exact goOn
        · rw [nI_clamp (by omega), k1] at h2
          have hb2 : by_ (ps t) g = some 2 := by
            cases hb : by_ (ps t) g with
            | none => exact absurd hb q3
            | some z =>
              rw [hb] at h2
              have := by3 _ _ _ hb
              rw [(i_eq z 2 rfl rfl (by omega) (by omega)).mp h2]
          have hl2 : g_l2 ln lo hi S W (ps t) g := by rw [hby] at hb2; exact g_by_2 hb2
          obtain ⟨hg1, l, hl3, hl4⟩ := hl2
          subst hg1
          have hw : g_wt ln lo hi W by_ (ps t) (ps t + 1) = l := by
            unfold g_wt
            rw [if_pos hb2, hl3]; rfl
          have hli : g_li ln lo hi S W (ps t) = some l := by
            unfold g_li
            rw [hl3]
            simp [hl4]
          rw [nI_clamp (by omega), k3, hli]
          show XS mX0_writeFound 84 _ [.int (nI l), _, _] _ _ _
          rw [← hw]
          exact goOn
  refine bX0_writeFound_0 ?_
  exact key (m - 1) 0 (fun _ => 0) _ (by show 0 + (m - 1) + 1 = m; omega) rfl (fun s hs => by omega) (Sm.rf.up (by simp)) ⟨by rw [x_up_at]; rfl, fun t ht => by omega⟩
theorem i_am1 (x : Int32) : x + (-1 : Int32) = x - 1 := (Int32.sub_eq_add_neg x 1).symm
theorem c_shortList {n ln S m : Nat} {d1 : Bool} {lo hi c0 c1 W : Nat → Nat} {I : Nat → Nat → Int32} {L : Nat → Int64} {Q : Option Value → (Nat → Nat → Int32) → (Nat → Int64) → Prop} {by_ : Nat → Nat → Option Nat} (hm8 : m ≤ 8) (hm0 : 0 < m)
    (hG : cG I n ln lo hi) (hN : g_net n ln lo hi) (hC0 : cC I ln 0 c0) (hC1 : cC I ln 1 c1) (hc0 : g_cs ln c0) (hc1 : g_cs ln c1) (hS : S < 2 ^ 31) (hlen : I 2049 0 = nI m) (hW : ∀ p, p < m → I 2112 p = nI (W p) ∧ W p < n)
    (hby : by_ = g_by (g_nxt (g_e ln lo hi c0 S) n) (g_nxt (g_e ln lo hi c1 S) n) d1 ln lo hi S W)
    (K1 : ∀ I' f T ps, Sm [1088, 1152, 1216, 2176, 2240, 2304, 2368, 2432, 2496, 2562, 2624, 2688] I I' → g_sf by_ m f → f 0 < 1000 → g_sl by_ m f T ps → T < 8 → cSL I' ln lo hi W by_ T ps → Q (some (.int 1)) I' L)
    (K0 : ∀ I' f, Sm [1088, 1152, 1216, 2176, 2240, 2304, 2368, 2432, 2496, 2562, 2624, 2688] I I' → g_sf by_ m f → ¬ f 0 < 1000 → Q (some (.int 0)) I' L) :
    XS mX0_shorten 0 [(0, .ref 31), (1, .int (nI S)), (2, .int (i_b d1))] [] I L Q := by
  have hln := hN.2.2.1
  have hn8 := hN.2.1
  have he0 := g_e_ok hN hc0 S
  have he1 := g_e_ok hN hc1 S
  have nx_lt : ∀ {e : Nat → Nat → Option Nat} {u w v}, g_ok e n → g_nxt e n u w = some v → v < n := fun he h => (g_nxt_some he h).1
  generalize hAll : [1088, 1152, 1216, 2176, 2240, 2304, 2368, 2432, 2496, 2562, 2624, 2688] = All at K1 K0
  have inA : ∀ r, r ∈ [1088, 1152, 1216, 2176, 2240, 2304, 2368, 2432, 2496, 2562, 2624, 2688] → r ∈ All := fun r h => hAll ▸ h
  have subA : ∀ {T : List Nat}, (∀ r, r ∈ T → r ∈ [1088, 1152, 1216, 2176, 2240, 2304, 2368, 2432, 2496, 2562, 2624, 2688]) → ∀ r, r ∈ T → r ∈ All := fun h r hr => inA r (h r hr)
  have off : ∀ r, r ∉ [1088, 1152, 1216, 2176, 2240, 2304, 2368, 2432, 2496, 2562, 2624, 2688] → r ∉ All := fun r h q => h (hAll ▸ q)
  have kG : ∀ {I'}, Sm All I I' → cG I' n ln lo hi := fun hs => hG.sm hs (off _ (by decide)) (off _ (by decide)) (off _ (by decide)) (off _ (by decide))
  have kC0 : ∀ {I'}, Sm All I I' → cC I' ln 0 c0 := fun hs l hl => by rw [hs _ (off _ (by decide))]; exact hC0 l hl
  have kC1 : ∀ {I'}, Sm All I I' → cC I' ln 1 c1 := fun hs l hl => by rw [hs _ (off _ (by decide))]; exact hC1 l hl
  have kl : ∀ {I' : Nat → Nat → Int32}, Sm All I I' → I' 2049 0 = nI m := fun hs => by rw [hs _ (off _ (by decide))]; exact hlen
  have kW : ∀ {I' : Nat → Nat → Int32}, Sm All I I' → ∀ p, p < m → I' 2112 p = nI (W p) ∧ W p < n := fun hs p hp => by rw [hs _ (off _ (by decide))]; exact hW p hp
  -- the second loop
  have second : ∀ p f I', p + 1 ≤ m → Sm All I I' → (∀ g, g < m → cAl I' (g_nxt (g_e ln lo hi c0 S) n) (g_nxt (g_e ln lo hi c1 S) n) d1 W g) → f (m - 1) = 0 → I' 2368 (m - 1) = nI 0 → (∀ q, p ≤ q → q + 1 < m → g_sfi by_ m f q ∧ cCh I' by_ m f q ∧ I' 2304 q = i_o (g_li ln lo hi S W q)) →
      XS mX0_shorten 110 [(0, .ref 31), (1, .int (nI S)), (4, .int (nI p - 1))] [] I' L Q := by
    intro p
    induction p with
    | zero =>
      intro f I' hp hs hal hl0 hl1 hq
      have hsf : g_sf by_ m f := ⟨hl0, fun i hi => (hq i (by omega) hi).1⟩
      have hfb : f 0 = 1000 ∨ f 0 ≤ 8 := by
        by_cases h1 : 1 < m
        · rcases (hq 0 (by omega) h1).1.1 with q | q <;> omega
        · rw [show m - 1 = 0 by omega] at hl0; omega
      have hf0 : I' 2368 0 = nI (f 0) := by
        by_cases h1 : 1 < m
        · exact (hq 0 (by omega) h1).2.1.1
        · rw [show m - 1 = 0 by omega] at hl0 hl1; rw [hl0, hl1]
      refine bX0_shorten_110 (fun _ => bX0_shorten_161 (fun h => ?_) (fun h => ?_)) (fun h => absurd (by decide) h)
      · rw [hf0] at h
        have h' := (i_lt _ 1000 rfl rfl (by omega) (by decide)).mp h
        refine bX0_shorten_175 (c_writeFound hm8 hm0 hN (kl hs) (kW hs) hby (fun p hp => (hq p (by omega) hp).2.2) hsf h' (fun p hp => (hq p (by omega) hp).2.1) (fun I2 T ps s2 hsl hT hcs => bX0_shorten_179 ?_))
        exact K1 I2 f T ps (hs.tr (s2.mono (subA (by decide)))) hsf h' hsl hT hcs
      · rw [hf0] at h
        refine bX0_shorten_173 (K0 I' f hs hsf (fun q => h ((i_lt _ 1000 rfl rfl (by omega) (by decide)).mpr q)))
    | succ p ih =>
      intro f I' hp hs hal hl0 hl1 hq
      have w1 := kW hs p (by omega)
      have w2 := kW hs (p + 1) (by omega)
      rw [nI_pred]
      refine bX0_shorten_110 (fun h => ?_) (fun _ => bX0_shorten_115 (vp_in_nI (by omega) (by decide)) (i_vp (p + 1) (nI_1 p) (by omega) (by decide)) ?_)
      · exact absurd rfl (i_neg h (a := p) (by omega))
      rw [nI_1, nI_clamp (by omega), nI_clamp (by omega), w1.1, w2.1]
      refine c_linkIn (kG hs) hN hS w1.2 w2.2 (bX0_shorten_148 (vp_in_nI (by omega) (by decide)) ?_)
      rw [nI_clamp (by omega)]
      have hs2 : Sm All I (x_up I' 2304 p (i_o (g_li ln lo hi S W p))) := hs.up (inA _ (by decide))
      refine c_chooseFirst (m := m) (f := f) hm8 (by omega) hln (fun l hl => ?_) hby (kl hs2) (fun g hg => ?_) (by rw [x_up_at]) (fun g hg hgm => ?_) (fun I3 f' s3 hf' hsfi hch => bX0_shorten_155 ?_)
      · unfold g_li at hl
        cases hx : g_lk ln lo hi (W p) (W (p + 1)) with
        | none => rw [hx] at hl; cases hl
        | some y =>
          rw [hx] at hl
          have := (g_lk_lt hN hx).1
          by_cases hb : S.testBit y = true
          · simp [hb] at hl; omega
          · simp [hb] at hl
      · obtain ⟨q, r, a⟩ := hal g hg
        exact ⟨q, r, by rw [x_up_ne (by decide), x_up_ne (by decide)]; exact a⟩
      · rw [x_up_ne (by decide)]
        by_cases hgl : g + 1 < m
        · have := hq g (by omega) hgl
          exact ⟨this.2.1.1, this.1.1⟩
        · have : g = m - 1 := by omega
          rw [this, hl0]; exact ⟨hl1, Or.inr (by omega)⟩
      · rw [i_am1]
        refine ih f' I3 (by omega) (hs2.tr (s3.mono (subA (by decide)))) (fun g hg => ?_) (by rw [(hf' (m - 1) (by omega)).1]; exact hl0) (by rw [(hf' (m - 1) (by omega)).2.1, x_up_ne (by decide)]; exact hl1) (fun q h1 h2 => ?_)
        · obtain ⟨q, r, a⟩ := hal g hg
          exact ⟨q, r, by rw [s3 _ (by decide), s3 _ (by decide), x_up_ne (by decide), x_up_ne (by decide)]; exact a⟩
        · by_cases hqp : q = p
          · subst hqp
            exact ⟨hsfi, hch, by rw [s3 _ (by decide), x_up_at]⟩
          · have e : ∀ x, q ≤ x → x < m → f' x = f x := fun x hx _ => (hf' x (by omega)).1
            obtain ⟨a1, a2, a3⟩ := hq q (by omega) h2
            refine ⟨g_sfi_congr e (by omega) a1, ⟨?_, fun hlt => ?_⟩, by rw [s3 _ (by decide), x_up_off hqp]; exact a3⟩
            · rw [(hf' q hqp).2.1, x_up_ne (by decide), (hf' q hqp).1]; exact a2.1
            · rw [(hf' q hqp).1] at hlt
              obtain ⟨g, b1, b2, b3⟩ := a2.2 hlt
              exact ⟨g, by rw [(hf' q hqp).2.2.1, x_up_ne (by decide)]; exact b1, by rw [(hf' q hqp).2.2.2, x_up_ne (by decide)]; exact b2, g_jp_congr' e b3⟩
  -- the first loop
  have first : ∀ k p I', p + k = m → Sm All I I' → (∀ g, g < p → cAl I' (g_nxt (g_e ln lo hi c0 S) n) (g_nxt (g_e ln lo hi c1 S) n) d1 W g) →
      XS mX0_shorten 2 [(0, .ref 31), (1, .int (nI S)), (2, .int (i_b d1)), (3, .int (nI p))] [] I' L Q := by
    intro k
    induction k with
    | zero =>
      intro p I' hp hs hal
      have em1 : I' 2049 0 - (1 : Int32) = nI (m - 1) := by rw [kl hs]; exact i_sub (a := m) (b := 1) (by omega)
      refine bX0_shorten_2 (fun _ => bX0_shorten_88 (i_vp (m - 1) em1 (by omega) (by decide)) ?_) (fun h => ?_)
      · have em1' : I' 2049 0 - (1 : Int32) = nI (m - 1) := em1
        rw [em1', nI_clamp (by omega)]
        refine second (m - 1) (fun _ => 0) _ (by omega) (hs.up (inA _ (by decide))) (fun g hg => ?_) rfl (by rw [x_up_at]; rfl) (fun q h1 h2 => by omega)
        obtain ⟨q, r, a⟩ := hal g (by omega)
        exact ⟨q, r, by rw [x_up_ne (by decide), x_up_ne (by decide)]; exact a⟩
      · exfalso
        apply h
        show I' 2049 0 ≤ _
        rw [kl hs, nI_leI (by omega) (by omega)]
        omega
    | succ k ih =>
      intro p I' hp hs hal
      have w := kW hs p (by omega)
      have hvp : vp_in (nI p) 8 := vp_in_nI (by omega) (by decide)
      refine bX0_shorten_2 (fun h => ?_) (fun _ => bX0_shorten_13 hvp ?_)
      · exfalso
        have h' : I' 2049 0 ≤ nI p := h
        rw [kl hs, nI_leI (by omega) (by omega)] at h'
        omega
      rw [nI_clamp (by omega), w.1]
      refine c_measure (kind := 0) (kG hs) hN (kC0 hs) hc0 (by omega) hS w.2 (fun I1 s1 hM => bX0_shorten_31 ?_)
      have hs1 : Sm All I I1 := hs.tr (s1.mono (subA (by decide)))
      refine c_followedFrom (n := n) (nx := g_nxt (g_e ln lo hi c0 S) n) (W := W) hn8 (by omega) (fun u w v h => nx_lt he0 h) (fun u hu => (hM u hu).2.1) (fun q hq => kW hs1 q (by omega)) (fun q hq hld => bX0_shorten_41 hvp hvp (fun h => ?_) (fun h => ?_))
      · rw [i_b0] at h
        rw [nI_clamp (by omega)]
        refine bX0_shorten_82 ?_
        rw [nI_1]
        refine ih (p + 1) _ (by omega) ((hs1.up (inA _ (by decide))).up (inA _ (by decide))) (fun g hg => ?_)
        by_cases hgp : g = p
        · subst hgp
          exact ⟨q, g, by rw [x_up_ne (by decide), x_up_at], hq, hld, by rw [x_up_at], by omega, fun i hi => ⟨fun z => by rw [h] at z; simp at z, fun z => by omega⟩⟩
        · obtain ⟨q', r', a⟩ := hal g (by omega)
          exact ⟨q', r', by rw [x_up_ne (by decide), x_up_off hgp, x_up_off hgp, x_up_ne (by decide), s1 _ (by decide), s1 _ (by decide)]; exact a⟩
      · have hd : d1 = true := by
          cases d1 with
          | true => rfl
          | false => exact absurd rfl h
        rw [nI_clamp (by omega)]
        have hs2 : Sm All I (x_up (x_up I1 2176 p (nI q)) 2240 p (nI p)) := (hs1.up (inA _ (by decide))).up (inA _ (by decide))
        have a0 : (x_up (x_up I1 2176 p (nI q)) 2240 p (nI p)) 2176 p = nI q := by rw [x_up_ne (by decide), x_up_at]
        have a1 : ∀ g, g ≠ p → (x_up (x_up I1 2176 p (nI q)) 2240 p (nI p)) 2176 g = I' 2176 g ∧ (x_up (x_up I1 2176 p (nI q)) 2240 p (nI p)) 2240 g = I' 2240 g := fun g hg => ⟨by rw [x_up_ne (by decide), x_up_off hg, s1 _ (by decide)], by rw [x_up_off hg, x_up_ne (by decide), s1 _ (by decide)]⟩
        generalize (x_up (x_up I1 2176 p (nI q)) 2240 p (nI p)) = I2 at hs2 a0 a1
        refine bX0_shorten_53 hvp ?_
        rw [nI_clamp (by omega), (kW hs2 p (by omega)).1]
        refine c_measure (kind := 1) (kG hs2) hN (kC1 hs2) hc1 (by omega) hS w.2 (fun I3 s3 hM3 => bX0_shorten_71 ?_)
        have hs3 : Sm All I I3 := hs2.tr (s3.mono (subA (by decide)))
        refine c_followedFrom (n := n) (nx := g_nxt (g_e ln lo hi c1 S) n) (W := W) hn8 (by omega) (fun u w v h => nx_lt he1 h) (fun u hu => (hM3 u hu).2.1) (fun q hq => kW hs3 q (by omega)) (fun r hr hld3 => bX0_shorten_81 hvp (bX0_shorten_82 ?_))
        rw [nI_clamp (by omega), nI_1]
        refine ih (p + 1) _ (by omega) (hs3.up (inA _ (by decide))) (fun g hg => ?_)
        by_cases hgp : g = p
        · subst hgp
          exact ⟨q, r, by rw [x_up_ne (by decide), s3 _ (by decide)]; exact a0, hq, hld, by rw [x_up_at], hr, fun i hi => ⟨fun z => (hld3 i (by omega)).mp z.2, fun z => ⟨hd, (hld3 i (by omega)).mpr z⟩⟩⟩
        · obtain ⟨q', r', a⟩ := hal g (by omega)
          exact ⟨q', r', by rw [x_up_ne (by decide), x_up_off hgp, s3 _ (by decide), s3 _ (by decide), (a1 g hgp).1, (a1 g hgp).2]; exact a⟩
  exact bX0_shorten_0 (first m 0 I (by omega) Sm.rf (fun g hg => by omega))
