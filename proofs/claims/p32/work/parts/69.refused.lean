/-! ===== what is refused changes nothing ===== -/
theorem g_is_n {n : Nat} (h : n < 2 ^ 31) : g_is n (nI n) = false := by
  rw [Bool.eq_false_iff]
  intro w
  obtain ⟨y, hy, e⟩ := (g_is_iff h).mp w
  rw [nI_eq h (by omega)] at e
  omega
theorem g_is_0 {n : Nat} (h : n < 2 ^ 31) (h0 : 0 < n) : g_is n (0 : Int32) = true := (g_is_iff h).mpr ⟨0, h0, rfl⟩
theorem l_refused {S : q_S} {I : Nat → Nat → Int32} {L : Nat → Int64} {Q : Option Value → (Nat → Nat → Int32) → (Nat → Int64) → Prop} (h : Cl I S) (K : ∀ (I' : Nat → Nat → Int32) (L' : Nat → Int64), Cl I' (S) → Q (some (.int (1))) I' L') : XS mL_refused 0 [(0, .ref 0)] [] I L Q := by
  obtain ⟨hn2, hn8, hln, -⟩ := g_okS_E h.1
  have hF8 := h.2.2.2.1.1
  have hn : g_is S.1.1 (nI S.1.1) = false := g_is_n (by omega)
  have h0 : g_is S.1.1 (0 : Int32) = true := g_is_0 (by omega) (by omega)
  have hl : g_is S.1.2.1 (nI S.1.2.1) = false := g_is_n (by omega)
  have fin : ∀ I L, Cl I S → XS mL_refused 362 [(0, .ref 0), (1, .long (hW S)), (3, .int (nI (sA S).1)), (6, .int 1)] [] I L Q := fun I L h => by
    refine bL_refused_362 (fun q => absurd q (by decide)) (fun _ => bL_refused_367 (l_whole h (fun I1 L1 h1 => bL_refused_371 (fun q => absurd (lg_self _) q) (fun _ => bL_refused_376 (k_count 11 rfl (by decide) h1 (fun I2 L2 h2 => bL_refused_382 (fun q => absurd rfl q) (fun _ => bL_refused_386 (bL_refused_391 (Or.inr rfl) (K I2 L2 h2)))))))))
  have loop : ∀ d k I L, k + d = S.1.2.1 → Cl I S → XS mL_refused 306 [(0, .ref 0), (1, .long (hW S)), (3, .int (nI (sA S).1)), (5, .int (nI S.1.2.1)), (6, .int 1), (7, .int (nI k))] [] I L Q := by
    intro d
    induction d with
    | zero =>
      intro k I L hk h
      exact bL_refused_306 (fun _ => fin I L h) (fun q => absurd ((i_le S.1.2.1 k rfl rfl (by omega) (by omega)).mpr (by omega)) q)
    | succ d ih =>
      intro k I L hk h
      have go : ∀ I L, Cl I S → XS mL_refused 344 [(0, .ref 0), (1, .long (hW S)), (3, .int (nI (sA S).1)), (5, .int (nI S.1.2.1)), (7, .int (nI k))] [.int (-4)] I L Q := fun I L h => by
        refine bL_refused_344 (fun q => absurd rfl q) (fun _ => bL_refused_349 (bL_refused_354 ?_))
        rw [nI_1]
        exact ih (k + 1) I L (by omega) h
      refine bL_refused_306 (fun q => ?_) (fun _ => bL_refused_313 (fun q => absurd q (by decide)) (fun _ => bL_refused_318 (k_link k 4 rfl rfl (by omega) (by decide) h (fun I1 L1 h1 => ?_))))
      · have := (i_le S.1.2.1 k rfl rfl (by omega) (by omega)).mp q; omega
      show XS mL_refused 325 [(0, .ref 0), (1, .long (hW S)), (3, .int (nI (sA S).1)), (5, .int (nI S.1.2.1)), (7, .int (nI k))] [.int (i_b (S.1.2.2.2.2.2.2.1.testBit k))] I1 L1 Q
      cases hb : S.1.2.2.2.2.2.2.1.testBit k with
      | true => exact bL_refused_325 (fun q => absurd rfl q) (fun _ => bL_refused_329 (k_healNot k rfl (by omega) hb h1 (fun I2 L2 h2 => bL_refused_335 (go I2 L2 h2))))
      | false => exact bL_refused_325 (fun _ => bL_refused_338 (k_failNot k rfl (by omega) hb h1 (fun I2 L2 h2 => go I2 L2 h2))) (fun q => absurd q (by decide))
  refine bL_refused_0 (l_whole h (fun I L h => bL_refused_4 (k_count 11 rfl (by decide) h (fun I L h => bL_refused_11 (k_count 0 rfl (by decide) h (fun I L h => bL_refused_17 (k_count 1 rfl (by decide) h (fun I L h => ?_))))))))
  show XS mL_refused 24 [(0, .ref 0), (1, .long (hW S)), (3, .int (nI (sA S).1)), (4, .int (nI S.1.1))] [.int (nI S.1.2.1)] I L Q
  refine bL_refused_24 (k_countBad h (fun I L h => bL_refused_32 (fun q => absurd rfl q) (fun _ => ?_)))
  refine bL_refused_37 (k_linkBad hl h (fun I L h => bL_refused_45 (fun q => absurd rfl q) (fun _ => ?_)))
  refine bL_refused_50 (k_failBad hl h (fun I L h => bL_refused_56 (fun q => absurd rfl q) (fun _ => ?_)))
  refine bL_refused_61 (k_healBad (g_is_neg (by decide)) h (fun I L h => bL_refused_66 (fun q => absurd rfl q) (fun _ => ?_)))
  refine bL_refused_71 (k_tuneBad hl h (fun I L h => bL_refused_79 (fun q => absurd rfl q) (fun _ => ?_)))
  refine bL_refused_84 (k_learnBad hn h (fun I L h => bL_refused_90 (fun q => absurd rfl q) (fun _ => ?_)))
  refine bL_refused_95 (k_seenBad hn h (fun I L h => bL_refused_101 (fun q => absurd rfl q) (fun _ => ?_)))
  refine bL_refused_106 (k_nextBad hn h (fun I L h => bL_refused_114 (fun q => absurd rfl q) (fun _ => ?_)))
  refine bL_refused_119 (k_farBad h0 hn h (fun I L h => bL_refused_127 (fun q => absurd rfl q) (fun _ => ?_)))
  refine bL_refused_132 (k_spaceBad h0 hl h (fun I L h => bL_refused_140 (fun q => absurd rfl q) (fun _ => ?_)))
  refine bL_refused_145 (k_ringsBad hn h (fun I L h => bL_refused_151 (fun q => absurd rfl q) (fun _ => ?_)))
  refine bL_refused_156 (k_safeBad hn h (fun I L h => bL_refused_162 (fun q => absurd rfl q) (fun _ => ?_)))
  refine bL_refused_167 (k_ord h (fun I L r h hr => ?_))
  have er : r = -3 := by
    rcases hr with ⟨-, e⟩ | ⟨a, -⟩ | ⟨-, a, -⟩ | ⟨k, hk, a, -⟩
    · exact e
    · exact absurd (by decide) a
    · exact absurd a (by decide)
    · exact absurd a (i_neg (by decide) hk)
  subst er
  refine bL_refused_173 (fun q => absurd rfl q) (fun _ => ?_)
  refine bL_refused_178 (k_pushOut (Or.inr (by decide)) h (fun I L h => bL_refused_185 (fun q => absurd rfl q) (fun _ => ?_)))
  have ep : q_pu S.1 (sF S) 0 S.1.1 = (-2, sF S) := by
    unfold q_pu
    rw [if_neg (show ¬ (if (0 : Nat) = 2 then decide (S.1.1 < S.1.2.1) else decide (S.1.1 < S.1.1)) = true by simp)]
  refine bL_refused_190 (k_push 0 S.1.1 rfl rfl (by decide) (by omega) h (fun I L h => ?_))
  rw [ep] at h ⊢
  have h : Cl I S := h
  refine bL_refused_197 (fun q => absurd rfl q) (fun _ => ?_)
  refine bL_refused_202 (k_segmentBad (fun q => by have := (i_lt 99 (sF S).length rfl rfl (by decide) (by omega)).mp q; omega) h (fun I L h => bL_refused_209 (fun q => absurd rfl q) (fun _ => ?_)))
  refine bL_refused_214 (k_repairLink h0 hl h (fun I L h => bL_refused_223 (fun q => absurd rfl q) (fun _ => ?_)))
  refine bL_refused_228 (k_repairSame h0 h (fun I L h => bL_refused_237 (fun q => absurd rfl q) (fun _ => ?_)))
  refine bL_refused_242 (k_traceBad hn h (fun I L h => bL_refused_248 (fun q => absurd rfl q) (fun _ => ?_)))
  refine bL_refused_253 (k_briefBad (by decide) h (fun I L h => bL_refused_259 (fun q => absurd rfl q) (fun _ => ?_)))
  refine bL_refused_264 (k_protectBad (by decide) (by decide) h (fun I L h => bL_refused_269 (fun q => absurd rfl q) (fun _ => ?_)))
  refine bL_refused_274 (k_sendBad hn h (fun I L h => bL_refused_280 (fun q => absurd rfl q) (fun _ => ?_)))
  refine bL_refused_285 (k_wayBad (by decide) h (fun I L h => bL_refused_291 (fun q => absurd rfl q) (fun _ => ?_)))
  exact bL_refused_296 (bL_refused_301 (loop S.1.2.1 0 I L (Nat.zero_add _) h))
