/-! ===== calls that ask little ===== -/
theorem Rel.up {k : Nat} {I : Nat → Nat → Int32} (h : Rel k I) : Rel (k + 1) I := h.sm (S := []) Sm.rf (by decide) (by omega)
theorem i01 {x : Int32} : (¬ x < 0 ∧ ¬ (1 : Int32) < x) ↔ (x = 0 ∨ x = 1) := by
  constructor
  · rintro ⟨h1, h2⟩
    obtain ⟨a, ha, rfl⟩ := nI_of h1
    have h3 : ¬ 1 < a := fun q => h2 ((i_lt 1 a rfl rfl (by decide) ha).mpr q)
    have : a = 0 ∨ a = 1 := by omega
    rcases this with rfl | rfl
    · exact Or.inl rfl
    · exact Or.inr rfl
  · rintro (rfl | rfl) <;> decide
theorem s_in01 {I : Nat → Nat → Int32} {L : Nat → Int64} {Q : Option Value → (Nat → Nat → Int32) → (Nat → Int64) → Prop} {x : Int32} (K : Q (some (.int (i_b (decide (x = 0 ∨ x = 1))))) I L) : XS mX10_in 0 [(0, .int x), (1, .int 0), (2, .int 1)] [] I L Q :=
  s_in (a := 0) (b := 0) (c := 0) _ (by rw [decide_eq_true_eq, i01]) K
theorem o_clear {k : Nat} {I : Nat → Nat → Int32} {L : Nat → Int64} (h : Rel k I) : Op k mX9_clear mX10_clear [] I L := by
  obtain ⟨σ, h1, h2, h3, ⟨F, f1, f2, f3, f4, f5⟩, h5, h6, h7, h8⟩ := h
  have f3' : I 1666 0 = nI F.length := f3
  have f4' : I 3144 0 = nI F.length := f4
  refine bX9_clear_0 ⟨_, rfl, bX10_clear_0 ⟨?_, σ, h1, ?_⟩⟩
  · rw [x_up_ne (by decide), f4', f3']
  · have s : Sm [1666, 3144] I (x_up (x_up I 1666 0 0) 3144 0 0) := (Sm.rf.up (by decide)).up (by decide)
    refine ⟨rNe_ag h2 (s.ag (by decide)), h3.ag (s.ag (by decide)), ⟨[], by simp, fun p hp => (by cases hp), ?_, ?_, fun t ht => (by simp at ht)⟩, h5.ag (s.ag (by decide)), h6.ag (s.ag (by decide)), h7.ag (s.ag (by decide)), h8.ag (s.ag (by decide)) (by omega)⟩
    · rw [x_up_ne (by decide), x_up_at]; rfl
    · rw [x_up_at]; rfl
theorem o_untrace {k : Nat} {I : Nat → Nat → Int32} {L : Nat → Int64} (h : Rel k I) : Op k mX9_untrace mX10_untrace [] I L := by
  obtain ⟨σ, h1, h2, h3, h4, ⟨m, W, f1, f2, f3, f4⟩, h6, h7, h8⟩ := h
  have f2' : I 1857 0 = nI m := f2
  have f3' : I 3147 0 = nI m := f3
  refine bX9_untrace_0 ⟨_, rfl, bX10_untrace_0 ⟨?_, σ, h1, ?_⟩⟩
  · rw [x_up_ne (by decide), f2', f3']
  · have s : Sm [1857, 3147] I (x_up (x_up I 1857 0 0) 3147 0 0) := (Sm.rf.up (by decide)).up (by decide)
    refine ⟨rNe_ag h2 (s.ag (by decide)), h3.ag (s.ag (by decide)), h4.ag (s.ag (by decide)), ⟨0, W, by omega, ?_, ?_, fun t ht => by omega⟩, h6.ag (s.ag (by decide)), h7.ag (s.ag (by decide)), h8.ag (s.ag (by decide)) (by omega)⟩
    · rw [x_up_ne (by decide), x_up_at]; rfl
    · rw [x_up_at]; rfl
theorem o_protect {k : Nat} {x : Int32} {I : Nat → Nat → Int32} {L : Nat → Int64} (h : Rel k I) : Op k mX9_protect mX10_protect [(1, .int x)] I L := by
  have h' := h
  obtain ⟨σ, h1, h2, h3, h4, h5, ⟨pr, f1, f2⟩, h7, h8⟩ := h
  have f1' : I 2757 0 = i_b pr := f1
  have f2' : I 3149 0 = i_b pr := f2
  have good : (x = 0 ∨ x = 1) → XS mX9_protect 12 [(0, .ref 0), (1, .int x)] [] I L (fun r I1 L1 => ∃ v, r = some (.int v) ∧ XS mX10_protect 0 [(0, .ref 49), (1, .int x)] [] I1 L1 (fun r2 I2 _ => r2 = some (.int v) ∧ Rel (k + 1) I2)) := fun hx => by
    refine bX9_protect_12 ⟨_, rfl, bX10_protect_0 (s_in01 ?_)⟩
    rw [decide_eq_true hx]
    refine bX10_protect_6 (fun _ => bX10_protect_12 ⟨?_, σ, h1, ?_⟩) (fun q => absurd q (by decide))
    · rw [x_up_ne (by decide), f1', f2']
    · have s : Sm [2757, 3149] I (x_up (x_up I 2757 0 x) 3149 0 x) := (Sm.rf.up (by decide)).up (by decide)
      refine ⟨rNe_ag h2 (s.ag (by decide)), h3.ag (s.ag (by decide)), h4.ag (s.ag (by decide)), h5.ag (s.ag (by decide)), ⟨decide (x = 1), ?_, ?_⟩, h7.ag (s.ag (by decide)), h8.ag (s.ag (by decide)) (by omega)⟩
      · rw [x_up_ne (by decide), x_up_at]; rcases hx with rfl | rfl <;> rfl
      · rw [x_up_at]; rcases hx with rfl | rfl <;> rfl
  refine bX9_protect_0 (fun q => good (Or.inl q)) (fun q => bX9_protect_4 (fun q2 => good (Or.inr q2)) (fun q2 => bX9_protect_9 ⟨_, rfl, bX10_protect_0 (s_in01 ?_)⟩))
  rw [decide_eq_false (by rintro (z | z); exact q z; exact q2 z)]
  exact bX10_protect_6 (fun q => absurd rfl q) (fun _ => bX10_protect_9 ⟨rfl, h'.up⟩)
theorem o_segment {k : Nat} {x y : Int32} {I : Nat → Nat → Int32} {L : Nat → Int64} (h : Rel k I) : Op k mX9_segment mX10_segment [(1, .int x), (2, .int y)] I L := by
  have h' := h
  obtain ⟨σ, h1, h2, h3, ⟨F, f1, f2, f3, f4, f5⟩, -⟩ := h
  have f3' : I 1666 0 = nI F.length := f3
  have f4' : I 3144 0 = nI F.length := f4
  have ref : ∀ (Q : Option Value → (Nat → Nat → Int32) → (Nat → Int64) → Prop), (g_is F.length x = true → XS mX10_segment 17 [(0, .ref 49), (1, .int x), (2, .int y)] [] I L Q) → (g_is F.length x = false → Q (some (.int (-2))) I L) → XS mX10_segment 0 [(0, .ref 49), (1, .int x), (2, .int y)] [] I L Q := fun Q K1 K0 => by
    refine bX10_segment_0 ?_
    rw [f4']
    refine s_in (a := 0) (b := 0) (c := 0) (g_is F.length x) (g_in_iff (by omega)) ?_
    cases hb : g_is F.length x with
    | true => exact bX10_segment_11 (fun _ => K1 hb) (fun q => absurd q (by decide))
    | false => exact bX10_segment_11 (fun q => absurd rfl q) (fun _ => bX10_segment_14 (K0 hb))
  have out : g_is F.length x = false → XS mX9_segment 15 [] [] I L (fun r I1 L1 => ∃ v, r = some (.int v) ∧ XS mX10_segment 0 [(0, .ref 49), (1, .int x), (2, .int y)] [] I1 L1 (fun r2 I2 _ => r2 = some (.int v) ∧ Rel (k + 1) I2)) := fun hb => bX9_segment_15 ⟨_, rfl, ref _ (fun q => by rw [hb] at q; cases q) (fun _ => ⟨rfl, h'.up⟩)⟩
  refine bX9_segment_0 (fun q => out (g_is_neg q)) (fun q => bX9_segment_4 (fun q2 => ?_) (fun q2 => out (g_is_ge (by rw [f3'] at q2; exact Int32.not_lt.mp q2))))
  rw [f3'] at q2
  have hin : g_is F.length x = true := g_is_in q (Int32.not_le.mpr q2)
  obtain ⟨a, ha, rfl⟩ := (g_is_iff (by omega)).mp hin
  obtain ⟨e1, e2, e3, e4⟩ := f5 a ha
  have hv : vp_in (nI a) 8 := vp_in_nI (by omega) (by decide)
  have ref2 : ∀ (Q : Option Value → (Nat → Nat → Int32) → (Nat → Int64) → Prop), (y = 0 ∨ y = 1) → XS mX10_segment 29 [(0, .ref 49), (1, .int (nI a)), (2, .int y)] [] I L Q → XS mX10_segment 0 [(0, .ref 49), (1, .int (nI a)), (2, .int y)] [] I L Q := fun Q hy K => by
    refine ref Q (fun _ => bX10_segment_17 (s_in01 ?_)) (fun q => by rw [hin] at q; cases q)
    rw [decide_eq_true hy]
    exact bX10_segment_23 (fun _ => K) (fun q => absurd q (by decide))
  have good : (y = 0 ∨ y = 1) → XS mX9_segment 30 [(0, .ref 0), (1, .int (nI a)), (2, .int y)] [] I L (fun r I1 L1 => ∃ v, r = some (.int v) ∧ XS mX10_segment 0 [(0, .ref 49), (1, .int (nI a)), (2, .int y)] [] I1 L1 (fun r2 I2 _ => r2 = some (.int v) ∧ Rel (k + 1) I2)) := fun hy => by
    refine bX9_segment_30 (fun q3 => bX9_segment_46 hv (bX9_segment_55 ⟨_, rfl, ref2 _ hy (bX10_segment_29 (fun _ => bX10_segment_42 hv (bX10_segment_48 ⟨?_, h'.up⟩)) (fun z => absurd z q3))⟩)) (fun q3 => bX9_segment_34 hv (bX9_segment_55 ⟨_, rfl, ref2 _ hy (bX10_segment_29 (fun z => absurd q3 z) (fun _ => bX10_segment_33 hv (bX10_segment_48 ⟨?_, h'.up⟩)))⟩))
    · rw [nI_clamp (by omega), show I 1792 a = _ from e2, show I 3584 a = _ from e4]
    · rw [nI_clamp (by omega), show I 1728 a = _ from e1, show I 3520 a = _ from e3]
  refine bX9_segment_18 (fun q3 => good (Or.inl q3)) (fun q3 => bX9_segment_22 (fun q4 => good (Or.inr q4)) (fun q4 => bX9_segment_27 ⟨_, rfl, ref _ (fun _ => bX10_segment_17 (s_in01 ?_)) (fun q => by rw [hin] at q; cases q)⟩))
  rw [decide_eq_false (by rintro (z | z); exact q3 z; exact q4 z)]
  exact bX10_segment_23 (fun q => absurd rfl q) (fun _ => bX10_segment_26 ⟨rfl, h'.up⟩)
theorem g_sg_of {n ln a b : Nat} (ha : a ≤ 2) (h : (if a = 2 then decide (b < ln) else decide (b < n)) = true) : g_sg n ln (a, b) := by
  refine ⟨by show a < 3; omega, fun q => ?_, fun q => ?_⟩
  · have q' : a = 2 := q
    rw [if_pos q'] at h
    exact of_decide_eq_true h
  · have q' : ¬ a = 2 := by have : a < 2 := q; omega
    rw [if_neg q'] at h
    exact of_decide_eq_true h
theorem o_push {k : Nat} {x y : Int32} {I : Nat → Nat → Int32} {L : Nat → Int64} (h : Rel k I) : Op k mX9_push mX10_push [(1, .int x), (2, .int y)] I L := by
  have h' := h
  obtain ⟨σ, h1, ⟨h2, h2'⟩, h3, ⟨F, f1, f2, f3, f4, f5⟩, h5, h6, h7, h8⟩ := h
  have hG : cG I σ.1 σ.2.1 σ.2.2.1 σ.2.2.2.1 := by obtain ⟨n, ln, lo, hi, c0, c1, U, seen⟩ := σ; exact h2.1
  have hG' : mG I σ.1 σ.2.1 σ.2.2.1 σ.2.2.2.1 := by obtain ⟨n, ln, lo, hi, c0, c1, U, seen⟩ := σ; exact h2'.1
  obtain ⟨-, hn8, hln, -⟩ := g_okS_E h1
  have f3' : I 1666 0 = nI F.length := f3
  have f4' : I 3144 0 = nI F.length := f4
  have out : ¬ (¬ x < 0 ∧ ¬ (2 : Int32) < x) → XS mX9_push 9 [] [] I L (fun r I1 L1 => ∃ v, r = some (.int v) ∧ XS mX10_push 0 [(0, .ref 49), (1, .int x), (2, .int y)] [] I1 L1 (fun r2 I2 _ => r2 = some (.int v) ∧ Rel (k + 1) I2)) := fun hb => by
    refine bX9_push_9 ⟨_, rfl, bX10_push_0 (s_in (a := 0) (b := 0) (c := 0) false ⟨fun q => (by cases q), fun q => absurd q hb⟩ (bX10_push_6 (fun q => absurd rfl q) (fun _ => bX10_push_9 ⟨rfl, h'.up⟩)))⟩
  refine bX9_push_0 (fun q => out (fun z => z.1 q)) (fun q => bX9_push_4 (fun q2 => ?_) (fun q2 => out (fun z => q2 (Int32.not_lt.mp z.2))))
  have hin : ¬ (2 : Int32) < x := Int32.not_lt.mpr q2
  obtain ⟨a, ha, rfl⟩ := nI_of q
  have ha2 : a ≤ 2 := (i_le a 2 rfl rfl ha (by decide)).mp q2
  have ref : ∀ (Q : Option Value → (Nat → Nat → Int32) → (Nat → Int64) → Prop), XS mX10_push 12 [(0, .ref 49), (1, .int (nI a)), (2, .int y)] [] I L Q → XS mX10_push 0 [(0, .ref 49), (1, .int (nI a)), (2, .int y)] [] I L Q := fun Q K =>
    bX10_push_0 (s_in (a := 0) (b := 0) (c := 0) true ⟨fun _ => ⟨q, hin⟩, fun _ => rfl⟩ (bX10_push_6 (fun _ => K) (fun z => absurd z (by decide))))
  have good : ∀ b, y = nI b → (if a = 2 then decide (b < σ.2.1) else decide (b < σ.1)) = true → (∀ (Q : Option Value → (Nat → Nat → Int32) → (Nat → Int64) → Prop), XS mX10_push 39 [(0, .ref 49), (1, .int (nI a)), (2, .int y)] [] I L Q → XS mX10_push 12 [(0, .ref 49), (1, .int (nI a)), (2, .int y)] [] I L Q) → XS mX9_push 45 [(0, .ref 0), (1, .int (nI a)), (2, .int y)] [] I L (fun r I1 L1 => ∃ v, r = some (.int v) ∧ XS mX10_push 0 [(0, .ref 49), (1, .int (nI a)), (2, .int y)] [] I1 L1 (fun r2 I2 _ => r2 = some (.int v) ∧ Rel (k + 1) I2)) := by
    rintro b rfl hb via
    have hsg := g_sg_of ha2 hb
    refine bX9_push_45 (fun z => bX9_push_60 ?_) (fun z => bX9_push_57 ⟨_, rfl, ref _ (via _ (bX10_push_39 (fun z2 => ?_) (fun z2 => bX10_push_48 ⟨rfl, h'.up⟩)))⟩)
    · rw [f3'] at z
      have hlt := (i_lt F.length 8 rfl rfl (by omega) (by decide)).mp z
      refine c_sput' k_list f3 hlt (bX9_push_69 ⟨_, rfl, ?_⟩)
      have s1 : Sm [1728, 1792, 1666] I (x_up (x_up (x_up I 1728 F.length (nI a)) 1792 F.length (nI b)) 1666 0 (nI (F.length + 1))) := ((Sm.rf.up (by decide)).up (by decide)).up (by decide)
      have a1 : ∀ t, (x_up (x_up (x_up I 1728 F.length (nI a)) 1792 F.length (nI b)) 1666 0 (nI (F.length + 1))) 1728 t = if t = F.length then nI a else I 1728 t := fun t => by
        rw [x_up_ne (by decide), x_up_ne (by decide), x_up_app]; simp
      have a2 : ∀ t, (x_up (x_up (x_up I 1728 F.length (nI a)) 1792 F.length (nI b)) 1666 0 (nI (F.length + 1))) 1792 t = if t = F.length then nI b else I 1792 t := fun t => by
        rw [x_up_ne (by decide), x_up_app, x_up_ne (by decide)]; simp
      have a3 : (x_up (x_up (x_up I 1728 F.length (nI a)) 1792 F.length (nI b)) 1666 0 (nI (F.length + 1))) 1666 0 = nI (F.length + 1) := x_up_at
      generalize (x_up (x_up (x_up I 1728 F.length (nI a)) 1792 F.length (nI b)) 1666 0 (nI (F.length + 1))) = I1 at s1 a1 a2 a3 ⊢
      -- the reference
      have hN3 : ∀ l, g_is σ.2.1 l = g_is σ.2.1 l := fun _ => rfl
      have f4'' : I1 3144 0 = nI F.length := by rw [s1 3144 (by decide)]; exact f4'
      have hG1 : mG I1 σ.1 σ.2.1 σ.2.2.1 σ.2.2.2.1 := hG'.sm s1 (by decide) (by decide) (by decide) (by decide)
      rw [a3]
      have via1 : XS mX10_push 39 [(0, .ref 49), (1, .int (nI a)), (2, .int (nI b))] [] I1 L (fun r2 I2 _ => r2 = some (.int (nI (F.length + 1))) ∧ Rel (k + 1) I2) → XS mX10_push 0 [(0, .ref 49), (1, .int (nI a)), (2, .int (nI b))] [] I1 L (fun r2 I2 _ => r2 = some (.int (nI (F.length + 1))) ∧ Rel (k + 1) I2) := fun K => by
        refine bX10_push_0 (s_in (a := 0) (b := 0) (c := 0) true ⟨fun _ => ⟨q, hin⟩, fun _ => rfl⟩ (bX10_push_6 (fun _ => bX10_push_12 (fun z => ?_) (fun z => ?_)) (fun z => absurd z (by decide))))
        · have ha' : ¬ a = 2 := fun w => z (by rw [w]; rfl)
          rw [if_neg ha'] at hb
          refine bX10_push_28 (s_isNode hG1 (by omega) ?_)
          rw [show g_is σ.1 (nI b) = true from (g_is_iff (by omega)).mpr ⟨b, of_decide_eq_true hb, rfl⟩]
          exact bX10_push_33 (fun _ => K) (fun w => absurd w (by decide))
        · have ha' : a = 2 := (i_eq a 2 rfl rfl ha (by decide)).mp z
          rw [if_pos ha'] at hb
          refine bX10_push_17 (s_isLink hG1 (by omega) ?_)
          rw [show g_is σ.2.1 (nI b) = true from (g_is_iff (by omega)).mpr ⟨b, of_decide_eq_true hb, rfl⟩]
          exact bX10_push_22 (fun _ => K) (fun w => absurd w (by decide))
      refine via1 (bX10_push_39 (fun _ => bX10_push_51 (by rw [f4'']; exact vp_in_nI hlt (by decide)) (by rw [x_up_ne (by decide), f4'']; exact vp_in_nI hlt (by decide)) ?_) (fun z2 => ?_))
      · have e1 : (x_up I1 3520 F.length (nI a)) 3144 0 = nI F.length := by rw [x_up_ne (by decide)]; exact f4''
        rw [f4'', nI_clamp (by omega), e1, nI_clamp (by omega)]
        have e2 : (x_up (x_up I1 3520 F.length (nI a)) 3584 F.length (nI b)) 3144 0 + (1 : Int32) = nI (F.length + 1) := by rw [x_up_ne (by decide), e1, nI_1]
        rw [e2, x_up_at]
        have s2 : Sm [3520, 3584, 3144] I1 (x_up (x_up (x_up I1 3520 F.length (nI a)) 3584 F.length (nI b)) 3144 0 (nI (F.length + 1))) := ((Sm.rf.up (by decide)).up (by decide)).up (by decide)
        have b1 : ∀ t, (x_up (x_up (x_up I1 3520 F.length (nI a)) 3584 F.length (nI b)) 3144 0 (nI (F.length + 1))) 3520 t = if t = F.length then nI a else I1 3520 t := fun t => by
          rw [x_up_ne (by decide), x_up_ne (by decide), x_up_app]; simp
        have b2 : ∀ t, (x_up (x_up (x_up I1 3520 F.length (nI a)) 3584 F.length (nI b)) 3144 0 (nI (F.length + 1))) 3584 t = if t = F.length then nI b else I1 3584 t := fun t => by
          rw [x_up_ne (by decide), x_up_app, x_up_ne (by decide)]; simp
        have b3 : (x_up (x_up (x_up I1 3520 F.length (nI a)) 3584 F.length (nI b)) 3144 0 (nI (F.length + 1))) 3144 0 = nI (F.length + 1) := x_up_at
        generalize (x_up (x_up (x_up I1 3520 F.length (nI a)) 3584 F.length (nI b)) 3144 0 (nI (F.length + 1))) = I2 at s2 b1 b2 b3 ⊢
        have s : Sm [1728, 1792, 1666, 3520, 3584, 3144] I I2 := (s1.mono (by decide)).tr (s2.mono (by decide))
        have len1 : (F ++ [(a, b)]).length = F.length + 1 := by simp
        refine ⟨rfl, σ, h1, rNe_ag ⟨h2, h2'⟩ (s.ag (by decide)), h3.ag (s.ag (by decide)), ⟨F ++ [(a, b)], by omega, fun p hp => ?_, ?_, ?_, fun t ht => ?_⟩, h5.ag (s.ag (by decide)), h6.ag (s.ag (by decide)), h7.ag (s.ag (by decide)), h8.ag (s.ag (by decide)) (by omega)⟩
        · rw [List.mem_append, List.mem_singleton] at hp
          rcases hp with hp | rfl
          · exact f2 p hp
          · exact hsg
        · rw [s2 _ (by decide), len1]; exact a3
        · rw [len1]; exact b3
        · rw [len1] at ht
          rw [s2 1728 (by decide), s2 1792 (by decide), show I1 1728 t = _ from a1 t, show I1 1792 t = _ from a2 t, show I2 3520 t = _ from b1 t, show I2 3584 t = _ from b2 t, s1 3520 (by decide), s1 3584 (by decide)]
          by_cases htl : t = F.length
          · subst htl
            rw [if_pos rfl, if_pos rfl, if_pos rfl, if_pos rfl]
            have : (F ++ [(a, b)]).getD F.length (0, 0) = (a, b) := by simp [List.getD]
            rw [this]
            exact ⟨rfl, rfl, rfl, rfl⟩
          · rw [if_neg htl, if_neg htl, if_neg htl, if_neg htl]
            have : (F ++ [(a, b)]).getD t (0, 0) = F.getD t (0, 0) := by
              simp only [List.getD]
              rw [List.getElem?_append_left (by omega)]
            rw [this]
            exact f5 t (by omega)
      · rw [f4''] at z2
        have := (i_eq _ 8 rfl rfl (by omega) (by decide)).mp z2; omega
    · exfalso
      rw [f3'] at z
      rw [f4'] at z2
      have : ¬ F.length < 8 := fun w => z ((i_lt _ 8 rfl rfl (by omega) (by decide)).mpr w)
      exact z2 ((i_eq _ 8 rfl rfl (by omega) (by decide)).mpr (by omega))
  refine bX9_push_12 (fun z => bX9_push_31 (c_hasNode hG ?_)) (fun z => bX9_push_17 (c_hasLink hG ?_))
  · have ha' : ¬ a = 2 := fun w => z (by rw [w]; rfl)
    cases hb : g_is σ.1 y with
    | true =>
      obtain ⟨b, hb1, rfl⟩ := (g_is_iff (by omega)).mp hb
      refine bX9_push_39 (fun _ => good b rfl (by rw [if_neg ha']; exact decide_eq_true hb1) (fun Q K => bX10_push_12 (fun _ => bX10_push_28 (s_isNode hG' (by omega) ?_)) (fun w => absurd w z))) (fun w => absurd w (by decide))
      rw [hb]
      exact bX10_push_33 (fun _ => K) (fun w => absurd w (by decide))
    | false =>
      refine bX9_push_39 (fun w => absurd rfl w) (fun _ => bX9_push_42 ⟨_, rfl, ref _ (bX10_push_12 (fun _ => bX10_push_28 (s_isNode hG' (by omega) ?_)) (fun w => absurd w z))⟩)
      rw [hb]
      exact bX10_push_33 (fun w => absurd rfl w) (fun _ => bX10_push_36 ⟨rfl, h'.up⟩)
  · have ha' : a = 2 := (i_eq a 2 rfl rfl ha (by decide)).mp z
    cases hb : g_is σ.2.1 y with
    | true =>
      obtain ⟨b, hb1, rfl⟩ := (g_is_iff (by omega)).mp hb
      refine bX9_push_25 (fun _ => good b rfl (by rw [if_pos ha']; exact decide_eq_true hb1) (fun Q K => bX10_push_12 (fun w => absurd z w) (fun _ => bX10_push_17 (s_isLink hG' (by omega) ?_)))) (fun w => absurd w (by decide))
      rw [hb]
      exact bX10_push_22 (fun _ => K) (fun w => absurd w (by decide))
    | false =>
      refine bX9_push_25 (fun w => absurd rfl w) (fun _ => bX9_push_28 (bX9_push_42 ⟨_, rfl, ref _ (bX10_push_12 (fun w => absurd z w) (fun _ => bX10_push_17 (s_isLink hG' (by omega) ?_)))⟩))
      rw [hb]
      exact bX10_push_22 (fun w => absurd rfl w) (fun _ => bX10_push_25 (bX10_push_36 ⟨rfl, h'.up⟩))
theorem o_seen {k : Nat} {x : Int32} {I : Nat → Nat → Int32} {L : Nat → Int64} (h : Rel k I) : Op k mX9_seen mX10_seen [(1, .int x)] I L := by
  have h' := h
  obtain ⟨σ, h1, ⟨h2, h2'⟩, -⟩ := h
  obtain ⟨-, hn8, hln, -⟩ := g_okS_E h1
  obtain ⟨n, ln, lo, hi, c0, c1, U, seen⟩ := σ
  obtain ⟨g1, -, -, -, g5⟩ := h2
  obtain ⟨m1, -, -, -, m5⟩ := h2'
  have hn8' : n ≤ 8 := hn8
  refine bX9_seen_0 (c_hasNode g1 ?_)
  cases hb : g_is n x with
  | false =>
    refine bX9_seen_8 (fun _ => bX9_seen_23 (bX9_seen_25 ⟨_, rfl, bX10_seen_0 (s_isNode m1 (by omega) ?_)⟩)) (fun q => absurd rfl q)
    rw [hb]
    exact bX10_seen_5 (fun _ => bX10_seen_20 (bX10_seen_22 ⟨rfl, h'.up⟩)) (fun q => absurd rfl q)
  | true =>
    obtain ⟨a, ha, rfl⟩ := (g_is_iff (by omega)).mp hb
    refine bX9_seen_8 (fun q => absurd q (by decide)) (fun _ => bX9_seen_11 (vp_in_nI (by omega) (by decide)) (bX9_seen_25 ⟨_, rfl, bX10_seen_0 (s_isNode m1 (by omega) ?_)⟩))
    rw [hb]
    refine bX10_seen_5 (fun q => absurd q (by decide)) (fun _ => bX10_seen_8 (i_vp (29 + a) (nI_add 29 a) (by omega) (by decide)) (bX10_seen_22 ⟨?_, h'.up⟩))
    rw [i_cl (x := (29 : Int32) + nI a) (29 + a) (nI_add 29 a) (by omega), nI_clamp (by omega), show I 3392 (29 + a) = nI (seen a) from m5 a ha, show I 448 a = nI (seen a) from g5 a ha]

theorem o_link {k : Nat} {x y : Int32} {I : Nat → Nat → Int32} {L : Nat → Int64} (h : Rel k I) : Op k mX9_link mX10_link [(1, .int x), (2, .int y)] I L := by
  have h' := h
  obtain ⟨σ, h1, ⟨h2, h2'⟩, -, -, -, -, -, ⟨-, -, -, -, -, -, -, -, -, -, -, -, hcr, -⟩⟩ := h
  have hok := h1
  obtain ⟨-, hn8, hln, hN⟩ := g_okS_E h1
  obtain ⟨n, ln, lo, hi, c0, c1, U, seen⟩ := σ
  obtain ⟨g1, g2, g3, g4, g5⟩ := h2
  obtain ⟨m1, m2, m3, m4, m5⟩ := h2'
  have hln' : ln ≤ 14 := hln
  have hU : U < 2 ^ 31 := Nat.lt_of_lt_of_le hok.2.2.2.1 (Nat.pow_le_pow_right (by omega) (by omega))
  refine bX9_link_0 (c_hasLink g1 ?_)
  cases hb : g_is ln x with
  | false =>
    refine bX9_link_8 (fun q => absurd rfl q) (fun _ => bX9_link_11 ⟨_, rfl, bX10_link_0 (s_isLink m1 (by omega) ?_)⟩)
    rw [hb]
    exact bX10_link_5 (fun q => absurd rfl q) (fun _ => bX10_link_8 ⟨rfl, h'.up⟩)
  | true =>
    obtain ⟨a, ha, rfl⟩ := (g_is_iff (by omega)).mp hb
    have ref : ∀ (Q : Option Value → (Nat → Nat → Int32) → (Nat → Int64) → Prop) (y : Int32), XS mX10_link 11 [(0, .ref 49), (1, .int (nI a)), (2, .int y)] [] I L Q → XS mX10_link 0 [(0, .ref 49), (1, .int (nI a)), (2, .int y)] [] I L Q := fun Q y K => by
      refine bX10_link_0 (s_isLink m1 (by omega) ?_)
      rw [hb]
      exact bX10_link_5 (fun _ => K) (fun q => absurd q (by decide))
    have hv : vp_in (nI a) 14 := vp_in_nI (by omega) (by decide)
    have hv2 : vp_in ((0 : Int32) + nI a) 37 := i_vp (0 + a) (nI_add 0 a) (by omega) (by decide)
    have hv3 : vp_in ((14 : Int32) + nI a) 37 := i_vp (14 + a) (nI_add 14 a) (by omega) (by decide)
    have e0 := g1.2.2 a ha
    have e1 := m1.2.2 a ha
    have e2 : I 256 a = nI (c0 a) := g2 a ha
    have e3 : I 320 a = nI (c1 a) := g3 a ha
    have e4 : I 3392 (0 + a) = nI (c0 a) := by have := m2 a ha; rw [Nat.mul_zero] at this; exact this
    have e5 : I 3392 (14 + a) = nI (c1 a) := by have := m3 a ha; rw [Nat.mul_one] at this; exact this
    have hbit : ((I 3392 28) >>> (nI a &&& 31)) &&& (1 : Int32) = i_b (U.testBit a) := by rw [show I 3392 28 = nI U from m4]; exact i_bit hU (by omega)
    refine bX9_link_8 (fun _ => bX9_link_14 (fun q => ?_) (fun q => ?_) (fun q => ?_) (fun q => ?_) (fun q => ?_) (fun q => ?_) (fun q => ?_)) (fun q => absurd q (by decide))
    · refine bX9_link_119 ⟨_, rfl, ref _ _ (bX10_link_11 (fun _ => bX10_link_104 ⟨rfl, h'.up⟩) (fun z => by subst z; exact absurd q (by decide)) (fun z => by subst z; exact absurd q (by decide)) (fun z => by subst z; exact absurd q (by decide)) (fun z => by subst z; exact absurd q (by decide)) (fun z => by subst z; exact absurd q (by decide)) (fun z => by subst z; exact absurd q (by decide)))⟩
    · subst q
      refine bX9_link_52 hv ⟨_, rfl, ref _ _ (bX10_link_11 (fun q => absurd q (by decide)) (fun _ => bX10_link_52 hv ⟨?_, h'.up⟩) (fun q => absurd q (by decide)) (fun q => absurd q (by decide)) (fun q => absurd q (by decide)) (fun q => absurd q (by decide)) (fun q => absurd q (by decide)))⟩
      rw [nI_clamp (by omega), show I 128 a = nI (lo a) from e0.1, show I 3200 a = nI (lo a) from e1.1]
    · subst q
      refine bX9_link_62 hv ⟨_, rfl, ref _ _ (bX10_link_11 (fun q => absurd q (by decide)) (fun q => absurd q (by decide)) (fun _ => bX10_link_59 hv ⟨?_, h'.up⟩) (fun q => absurd q (by decide)) (fun q => absurd q (by decide)) (fun q => absurd q (by decide)) (fun q => absurd q (by decide)))⟩
      rw [nI_clamp (by omega), show I 192 a = nI (hi a) from e0.2, show I 3264 a = nI (hi a) from e1.2]
    · subst q
      refine bX9_link_72 hv ⟨_, rfl, ref _ _ (bX10_link_11 (fun q => absurd q (by decide)) (fun q => absurd q (by decide)) (fun q => absurd q (by decide)) (fun _ => bX10_link_66 hv2 ⟨?_, h'.up⟩) (fun q => absurd q (by decide)) (fun q => absurd q (by decide)) (fun q => absurd q (by decide)))⟩
      rw [i_cl (x := (0 : Int32) + nI a) (0 + a) (nI_add 0 a) (by omega), nI_clamp (by omega), e2, e4]
    · subst q
      refine bX9_link_82 hv ⟨_, rfl, ref _ _ (bX10_link_11 (fun q => absurd q (by decide)) (fun q => absurd q (by decide)) (fun q => absurd q (by decide)) (fun q => absurd q (by decide)) (fun _ => bX10_link_75 hv3 ⟨?_, h'.up⟩) (fun q => absurd q (by decide)) (fun q => absurd q (by decide)))⟩
      rw [i_cl (x := (14 : Int32) + nI a) (14 + a) (nI_add 14 a) (by omega), nI_clamp (by omega), e3, e5]
    · subst q
      refine bX9_link_92 (c_isUp g4 hU (by omega) ?_)
      cases hbt : U.testBit a with
      | true =>
        refine bX9_link_100 (fun z => absurd z (by decide)) (fun _ => bX9_link_103 (bX9_link_108 ⟨_, rfl, ref _ _ (bX10_link_11 (fun q => absurd q (by decide)) (fun q => absurd q (by decide)) (fun q => absurd q (by decide)) (fun q => absurd q (by decide)) (fun q => absurd q (by decide)) (fun _ => bX10_link_85 ⟨?_, h'.up⟩) (fun q => absurd q (by decide)))⟩))
        rw [hbit, hbt]; rfl
      | false =>
        refine bX9_link_100 (fun _ => bX9_link_107 (bX9_link_108 ⟨_, rfl, ref _ _ (bX10_link_11 (fun q => absurd q (by decide)) (fun q => absurd q (by decide)) (fun q => absurd q (by decide)) (fun q => absurd q (by decide)) (fun q => absurd q (by decide)) (fun _ => bX10_link_85 ⟨?_, h'.up⟩) (fun q => absurd q (by decide)))⟩)) (fun z => absurd rfl z)
        rw [hbit, hbt]; rfl
    · subst q
      refine bX9_link_109 hv ⟨_, rfl, ref _ _ (bX10_link_11 (fun q => absurd q (by decide)) (fun q => absurd q (by decide)) (fun q => absurd q (by decide)) (fun q => absurd q (by decide)) (fun q => absurd q (by decide)) (fun q => absurd q (by decide)) (fun _ => bX10_link_97 hv ⟨?_, h'.up⟩))⟩
      rw [nI_clamp (by omega), show I 384 a = I 3328 a from hcr a (by omega)]
