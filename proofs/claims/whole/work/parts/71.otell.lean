/-! ===== the text done ===== -/
theorem g_ap_grow {σ : g_St} {cl : g_Cl} (h : g_isN cl = false) : (g_ap σ cl).1 = σ.1 ∧ σ.2.1 ≤ (g_ap σ cl).2.1 := by
  obtain ⟨n, ln, lo, hi, c0, c1, U, seen⟩ := σ
  cases cl with
  | inl k => cases h
  | inr q =>
    obtain ⟨u, v, c, d⟩ := q
    cases hl : g_lk ln lo hi u v with
    | some l =>
      have e : g_ap (n, ln, lo, hi, c0, c1, U, seen) (.inr (u, v, c, d)) = (n, ln, lo, hi, g_set c0 l c, g_set c1 l d, U, seen) := by
        unfold g_ap; dsimp only; rw [hl]
      rw [e]
      exact ⟨rfl, Nat.le_refl _⟩
    | none =>
      have e : g_ap (n, ln, lo, hi, c0, c1, U, seen) (.inr (u, v, c, d)) = (n, ln + 1, g_set lo ln (min u v), g_set hi ln (max u v), g_set c0 ln c, g_set c1 ln d, U ||| 2 ^ ln, fun w => seen w ||| 2 ^ ln) := by
        unfold g_ap; dsimp only; rw [hl]
      rw [e]
      exact ⟨rfl, Nat.le_succ _⟩
theorem g_fold_grow : ∀ (C : List g_Cl) (σ : g_St), g_an C = false → (C.foldl g_ap σ).1 = σ.1 ∧ σ.2.1 ≤ (C.foldl g_ap σ).2.1 := by
  intro C
  induction C with
  | nil => intro σ _; exact ⟨rfl, Nat.le_refl _⟩
  | cons cl C ih =>
    intro σ h
    have h2 : (g_isN cl || g_an C) = false := h
    rw [Bool.or_eq_false_iff] at h2
    obtain ⟨a1, a2⟩ := g_ap_grow (σ := σ) h2.1
    obtain ⟨b1, b2⟩ := ih (g_ap σ cl) h2.2
    exact ⟨b1.trans a1, Nat.le_trans a2 b2⟩
theorem o_tell {k : Nat} {I : Nat → Nat → Int32} {L : Nat → Int64} (h : Rel k I) : Op k mX9_tell mX10_tell [] I L := by
  have h' := h
  obtain ⟨σ, hok, ⟨h2, h3⟩, ⟨T, len, hT, hT'⟩, ⟨F, f1, f2, f3, f4, f5⟩, ⟨m, W, t0, t1, t2, t3⟩, ⟨pr, r1, r2⟩, ⟨a, ah, H, p1, p2, p3, p4, p5, p6, p7⟩, hLe⟩ := h
  have f3' : I 1666 0 = nI F.length := f3
  have f4' : I 3144 0 = nI F.length := f4
  refine c_tell h2 hok hT (fun I1 L1 s1 hf => ⟨_, rfl, s_tell hok (h3.sm s1 (by decide) (by decide) (by decide) (by decide) (by decide)) (hT'.sm s1 (by decide) (by decide)) (fun I2 s2 _ => ⟨rfl, (h'.sm s1 (by decide) (Nat.le_refl _)).sm s2 (by decide) (by omega)⟩) (fun I2 C _ hps _ _ _ _ _ => absurd (by rw [hps]) hf)⟩) (fun I1 L1 C s1 hps hc hok' hg hz hcr => ⟨_, rfl, s_tell hok (h3.sm s1 (by decide) (by decide) (by decide) (by decide) (by decide)) (hT'.sm s1 (by decide) (by decide)) (fun I2 _ hne => absurd (by rw [hps]) hne) (fun I2 C' s2 hps' hm hg' hz' hh hgo => ?_)⟩)
  rw [hps] at hps'
  injection hps' with _ hCC
  subst hCC
  have hgrow := g_fold_grow C σ
  generalize C.foldl g_ap σ = σ' at hc hok' hm hgrow
  have k2 : ∀ r, r ∉ S_tl → I2 r = I1 r := fun r hr => s2 r hr
  refine ⟨rfl, σ', hok', ⟨?_, hm⟩, ⟨T, 0, ⟨?_, by omega, fun j hj => by omega⟩, ⟨?_, by omega, fun j hj => by omega⟩⟩, ?_, ?_, ?_, ⟨0, ah, fun _ => g_ho σ', by omega, p2, ?_, ?_, ?_, rfl, fun i hi => by omega⟩, ⟨0, [], false, by omega, by simp, ?_, ?_, ?_, ?_, ?_, ?_, ?_, fun l hl => ?_, fun _ => hh, fun q => by omega⟩⟩
  · obtain ⟨n, ln, lo, hi, c0, c1, U, seen⟩ := σ'
    obtain ⟨v1, v2, v3, v4, v5⟩ := hc
    exact ⟨v1.sm s2 (by decide) (by decide) (by decide) (by decide), fun i hi => by rw [s2 _ (by decide)]; exact v2 i hi, fun i hi => by rw [s2 _ (by decide)]; exact v3 i hi, by rw [s2 _ (by decide)]; exact v4, fun i hi => by rw [s2 _ (by decide)]; exact v5 i hi⟩
  · rw [k2 _ (by decide)]; exact hz _ (by decide)
  · exact hz' _ (by decide)
  · obtain ⟨c1, -, -⟩ := hg
    obtain ⟨d1, -, -⟩ := hg'
    cases hb : g_an C with
    | true =>
      rw [hb, if_pos rfl] at c1 d1
      refine ⟨[], by simp, fun p hp => (by cases hp), ?_, ?_, fun t ht => (by simp at ht)⟩
      · rw [k2 _ (by decide)]; exact c1
      · exact d1
    | false =>
      obtain ⟨e1, e2⟩ := hgrow hb
      rw [hb, if_neg (by simp)] at c1 d1
      refine ⟨F, f1, fun p hp => ?_, ?_, ?_, fun t ht => ?_⟩
      · obtain ⟨y1, y2, y3⟩ := f2 p hp
        exact ⟨y1, fun q => Nat.lt_of_lt_of_le (y2 q) e2, fun q => by rw [e1]; exact y3 q⟩
      · rw [k2 _ (by decide), c1]; exact f3
      · rw [d1, s1 _ (by decide)]; exact f4
      · rw [k2 1728 (by decide), k2 1792 (by decide), k2 3520 (by decide), k2 3584 (by decide), s1 1728 (by decide), s1 1792 (by decide), s1 3520 (by decide), s1 3584 (by decide)]
        exact f5 t ht
  · obtain ⟨-, c1, -⟩ := hg
    obtain ⟨-, d1, -⟩ := hg'
    cases hb : g_an C with
    | true =>
      rw [hb, if_pos rfl] at c1 d1
      refine ⟨0, W, by omega, ?_, ?_, fun t ht => by omega⟩
      · rw [k2 _ (by decide)]; exact c1
      · exact d1
    | false =>
      obtain ⟨e1, e2⟩ := hgrow hb
      rw [hb, if_neg (by simp)] at c1 d1
      refine ⟨m, W, t0, ?_, ?_, fun t ht => ?_⟩
      · rw [k2 _ (by decide), c1]; exact t1
      · rw [d1, s1 _ (by decide)]; exact t2
      · rw [k2 1920 (by decide), k2 3648 (by decide), s1 1920 (by decide), s1 3648 (by decide), e1]
        exact t3 t ht
  · obtain ⟨-, -, c1⟩ := hg
    obtain ⟨-, -, d1⟩ := hg'
    cases hb : g_an C with
    | true =>
      rw [hb, if_pos rfl] at c1 d1
      refine ⟨false, ?_, ?_⟩
      · rw [k2 _ (by decide)]; exact c1
      · exact d1
    | false =>
      rw [hb, if_neg (by simp)] at c1 d1
      refine ⟨pr, ?_, ?_⟩
      · rw [k2 _ (by decide), c1]; exact r1
      · rw [d1, s1 _ (by decide)]; exact r2
  · rw [k2 _ (by decide)]; exact hz _ (by decide)
  · rw [k2 _ (by decide), s1 _ (by decide)]; exact p4
  · exact hz' _ (by decide)
  · rw [k2 _ (by decide)]; exact hz _ (by decide)
  · exact hz' _ (by decide)
  · rw [k2 2759 (by decide), hz _ (by decide), hz' _ (by decide)]
  · rw [k2 2761 (by decide), hz _ (by decide), hz' _ (by decide)]
  · rw [k2 2760 (by decide), hz _ (by decide), hz' _ (by decide)]
  · rw [k2 _ (by decide)]; exact hz _ (by decide)
  · exact hz' _ (by decide)
  · rw [k2 384 (by decide), hcr l hl, hgo l hl]
