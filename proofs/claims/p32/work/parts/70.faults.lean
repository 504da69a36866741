/-! ===== texts with faults ===== -/
theorem l_wholeT {S : q_S} {t : List Nat} {I : Nat → Nat → Int32} {L : Nat → Int64} {Q : Option Value → (Nat → Nat → Int32) → (Nat → Int64) → Prop} (h : Cl I (uT S t)) (K : ∀ (I' : Nat → Nat → Int32) (L' : Nat → Int64), Cl I' (uT S t) → Q (some (.long (hW S))) I' L') : XS mL_whole 0 [(0, .ref 0)] [] I L Q :=
  l_whole h (fun I' L' h' => by rw [hW_uT]; exact K I' L' h')
theorem k_len {S : q_S} {t : List Nat} {I : Nat → Nat → Int32} {L : Nat → Int64} {Q : Option Value → (Nat → Nat → Int32) → (Nat → Int64) → Prop} (n : Nat) (hn : t.length = n) (h : Cl I (uT S t)) (K : ∀ (I' : Nat → Nat → Int32) (L' : Nat → Int64), Cl I' (uT S t) → Q (some (.int (nI n))) I' L') : XS mX9_count 0 [(0, .ref 0), (1, .int (12 : Int32))] [] I L Q := by
  subst hn
  exact k_count 12 rfl (by decide) h K
theorem k_acts {S : q_S} {t : List Nat} {I : Nat → Nat → Int32} {L : Nat → Int64} {Q : Option Value → (Nat → Nat → Int32) → (Nat → Int64) → Prop} (h : Cl I (uT S t)) (K : ∀ (I' : Nat → Nat → Int32) (L' : Nat → Int64), Cl I' (uT S t) → Q (some (.int (nI (sA S).1))) I' L') : XS mX9_count 0 [(0, .ref 0), (1, .int (11 : Int32))] [] I L Q := k_count 11 rfl (by decide) h K
/-- a text that doesn't begin with a link: its clauses are whatever was there before -/
theorem g_ps_any {T : Nat → Nat} {len N : Nat} {E : List (Nat × Nat)} (h : g_isw T (g_P T len 0) (g_Z T len 0) 1 = false) (k : Nat) : g_ps T len (k + 1) N E 0 = g_ps T len (k + 1) 2 [] 0 := by
  have e : g_cl T len N E 0 = g_cl T len 2 [] 0 := by
    unfold g_cl
    by_cases h0 : g_isw T (g_P T len 0) (g_Z T len 0) 0 = true
    · rw [if_pos h0, if_pos h0]
    · rw [if_neg h0, if_neg h0, if_neg (by rw [h]; simp), if_neg (by rw [h]; simp)]
  have e2 : (∃ p, g_cl T len N E 0 = .inl p) ∨ ∃ k e, g_cl T len N E 0 = .inr (.inl k, e) := by
    unfold g_cl
    by_cases h0 : g_isw T (g_P T len 0) (g_Z T len 0) 0 = true
    · rw [if_pos h0]
      unfold g_cln
      cases g_nu T len (g_Z T len 0) 2 8 with
      | none => exact Or.inl ⟨_, rfl⟩
      | some k => exact Or.inr ⟨k, _, rfl⟩
    · rw [if_neg h0, if_neg (by rw [h]; simp)]
      exact Or.inl ⟨_, rfl⟩
  unfold g_ps
  rw [← e]
  rcases e2 with ⟨p, e2⟩ | ⟨q, e', e2⟩
  · rw [e2]
  · rw [e2]
    rfl
theorem oFt_any {σ : g_St} {t : List Nat} (h : g_isw (qTf t) (g_P (qTf t) t.length 0) (g_Z (qTf t) t.length 0) 1 = false) : oFt σ t = g_ps (qTf t) t.length 24 2 [] 0 := g_ps_any h 23
theorem k_faultC {S : q_S} {t : List Nat} {I : Nat → Nat → Int32} {L : Nat → Int64} {Q : Option Value → (Nat → Nat → Int32) → (Nat → Int64) → Prop} (r : Option Nat) (h1 : g_isw (qTf t) (g_P (qTf t) t.length 0) (g_Z (qTf t) t.length 0) 1 = false) (hr : (g_ps (qTf t) t.length 24 2 [] 0).1 = r) (h : Cl I (uT S t)) (K : ∀ (I' : Nat → Nat → Int32) (L' : Nat → Int64), Cl I' (uT S t) → Q (some (.int (i_o r))) I' L') : XS mX9_fault 0 [(0, .ref 0)] [] I L Q :=
  k_fault r (by rw [oFt_any h1]; exact hr) h K
theorem k_tellNo {S : q_S} {t : List Nat} {I : Nat → Nat → Int32} {L : Nat → Int64} {Q : Option Value → (Nat → Nat → Int32) → (Nat → Int64) → Prop} (p : Nat) (h1 : g_isw (qTf t) (g_P (qTf t) t.length 0) (g_Z (qTf t) t.length 0) 1 = false) (hr : (g_ps (qTf t) t.length 24 2 [] 0).1 = some p) (h : Cl I (uT S t)) (K : ∀ (I' : Nat → Nat → Int32) (L' : Nat → Int64), Cl I' (uT S t) → Q (some (.int (-4))) I' L') : XS mX9_tell 0 [(0, .ref 0)] [] I L Q :=
  k_tellBad (by rw [oFt_any h1, hr]; simp) h K
set_option maxHeartbeats 4000000 in
theorem l_faults {S : q_S} {I : Nat → Nat → Int32} {L : Nat → Int64} {Q : Option Value → (Nat → Nat → Int32) → (Nat → Int64) → Prop} (h : Cl I S) (K : ∀ (I' : Nat → Nat → Int32) (L' : Nat → Int64), Cl I' (uT S []) → Q (some (.int (1))) I' L') : XS mL_faults 0 [(0, .ref 0)] [] I L Q := by
  have h : Cl I (uT S (sT S)) := h
  refine bL_faults_0 (l_wholeT h (fun I L h => ?_))
  refine bL_faults_4 (k_acts h (fun I L h => ?_))
  refine bL_faults_11 (k_erase h (fun I L h => ?_))
  refine bL_faults_16 (k_faultC (some 0) (by decide +kernel) (by decide +kernel) h (fun I L h => ?_))
  refine bL_faults_21 (fun q => absurd q (by decide)) (fun _ => ?_)
  refine bL_faults_24 (k_tellNo 0 (by decide +kernel) (by decide +kernel) h (fun I L h => ?_))
  refine bL_faults_28 (fun q => absurd q (by decide)) (fun _ => ?_)
  refine bL_faults_33 ?_
  refine bL_faults_38 (l_says 110 111 100 101 (by decide) (by decide) (by decide) (by decide) (by decide) (by decide +kernel) h (fun I L h => ?_))
  have h : Cl I (uT S [110, 111, 100, 101]) := h
  refine bL_faults_52 (l_says 115 32 49 32 (by decide) (by decide) (by decide) (by decide) (by decide) (by decide +kernel) h (fun I L h => ?_))
  have h : Cl I (uT S [110, 111, 100, 101, 115, 32, 49, 32]) := h
  refine bL_faults_64 (fun q => absurd q (by decide)) (fun _ => ?_)
  refine bL_faults_69 (k_faultC (some 6) (by decide +kernel) (by decide +kernel) h (fun I L h => ?_))
  refine bL_faults_73 (fun q => absurd q (by decide)) (fun _ => ?_)
  refine bL_faults_78 (k_erase h (fun I L h => ?_))
  refine bL_faults_82 (fun q => absurd q (by decide)) (fun _ => ?_)
  refine bL_faults_87 ?_
  refine bL_faults_92 (l_says 110 111 100 101 (by decide) (by decide) (by decide) (by decide) (by decide) (by decide +kernel) h (fun I L h => ?_))
  have h : Cl I (uT S [110, 111, 100, 101]) := h
  refine bL_faults_106 (l_says 115 48 56 32 (by decide) (by decide) (by decide) (by decide) (by decide) (by decide +kernel) h (fun I L h => ?_))
  have h : Cl I (uT S [110, 111, 100, 101, 115, 48, 56, 32]) := h
  refine bL_faults_118 (fun q => absurd q (by decide)) (fun _ => ?_)
  refine bL_faults_123 (k_faultC (some 5) (by decide +kernel) (by decide +kernel) h (fun I L h => ?_))
  refine bL_faults_127 (fun q => absurd q (by decide)) (fun _ => ?_)
  refine bL_faults_131 (k_erase h (fun I L h => ?_))
  refine bL_faults_135 (fun q => absurd q (by decide)) (fun _ => ?_)
  refine bL_faults_140 ?_
  refine bL_faults_145 (l_says 110 111 100 101 (by decide) (by decide) (by decide) (by decide) (by decide) (by decide +kernel) h (fun I L h => ?_))
  have h : Cl I (uT S [110, 111, 100, 101]) := h
  refine bL_faults_159 (l_says 115 51 59 32 (by decide) (by decide) (by decide) (by decide) (by decide) (by decide +kernel) h (fun I L h => ?_))
  have h : Cl I (uT S [110, 111, 100, 101, 115, 51, 59, 32]) := h
  refine bL_faults_171 (l_says 108 105 110 107 (by decide) (by decide) (by decide) (by decide) (by decide) (by decide +kernel) h (fun I L h => ?_))
  have h : Cl I (uT S [110, 111, 100, 101, 115, 51, 59, 32, 108, 105, 110, 107]) := h
  refine bL_faults_183 (l_says 48 32 48 32 (by decide) (by decide) (by decide) (by decide) (by decide) (by decide +kernel) h (fun I L h => ?_))
  have h : Cl I (uT S [110, 111, 100, 101, 115, 51, 59, 32, 108, 105, 110, 107, 48, 32, 48, 32]) := h
  refine bL_faults_195 (fun q => absurd q (by decide)) (fun _ => ?_)
  refine bL_faults_200 (k_faultC (some 14) (by decide +kernel) (by decide +kernel) h (fun I L h => ?_))
  refine bL_faults_204 (fun q => absurd q (by decide)) (fun _ => ?_)
  refine bL_faults_209 ?_
  refine bL_faults_214 (k_erase h (fun I L h => ?_))
  refine bL_faults_220 (l_says 110 111 100 101 (by decide) (by decide) (by decide) (by decide) (by decide) (by decide +kernel) h (fun I L h => ?_))
  have h : Cl I (uT S [110, 111, 100, 101]) := h
  refine bL_faults_233 (l_says 115 51 59 32 (by decide) (by decide) (by decide) (by decide) (by decide) (by decide +kernel) h (fun I L h => ?_))
  have h : Cl I (uT S [110, 111, 100, 101, 115, 51, 59, 32]) := h
  refine bL_faults_245 (l_says 108 105 110 107 (by decide) (by decide) (by decide) (by decide) (by decide) (by decide +kernel) h (fun I L h => ?_))
  have h : Cl I (uT S [110, 111, 100, 101, 115, 51, 59, 32, 108, 105, 110, 107]) := h
  refine bL_faults_257 (l_says 51 32 48 32 (by decide) (by decide) (by decide) (by decide) (by decide) (by decide +kernel) h (fun I L h => ?_))
  have h : Cl I (uT S [110, 111, 100, 101, 115, 51, 59, 32, 108, 105, 110, 107, 51, 32, 48, 32]) := h
  refine bL_faults_269 (fun q => absurd q (by decide)) (fun _ => ?_)
  refine bL_faults_274 (k_faultC (some 12) (by decide +kernel) (by decide +kernel) h (fun I L h => ?_))
  refine bL_faults_278 (fun q => absurd q (by decide)) (fun _ => ?_)
  refine bL_faults_283 (k_erase h (fun I L h => ?_))
  refine bL_faults_287 (fun q => absurd q (by decide)) (fun _ => ?_)
  refine bL_faults_292 ?_
  refine bL_faults_297 (l_says 110 111 100 101 (by decide) (by decide) (by decide) (by decide) (by decide) (by decide +kernel) h (fun I L h => ?_))
  have h : Cl I (uT S [110, 111, 100, 101]) := h
  refine bL_faults_311 (l_says 115 51 59 32 (by decide) (by decide) (by decide) (by decide) (by decide) (by decide +kernel) h (fun I L h => ?_))
  have h : Cl I (uT S [110, 111, 100, 101, 115, 51, 59, 32]) := h
  refine bL_faults_323 (l_says 108 105 110 107 (by decide) (by decide) (by decide) (by decide) (by decide) (by decide +kernel) h (fun I L h => ?_))
  have h : Cl I (uT S [110, 111, 100, 101, 115, 51, 59, 32, 108, 105, 110, 107]) := h
  refine bL_faults_335 (l_says 50 32 49 32 (by decide) (by decide) (by decide) (by decide) (by decide) (by decide +kernel) h (fun I L h => ?_))
  have h : Cl I (uT S [110, 111, 100, 101, 115, 51, 59, 32, 108, 105, 110, 107, 50, 32, 49, 32]) := h
  refine bL_faults_347 (fun q => absurd q (by decide)) (fun _ => ?_)
  refine bL_faults_352 (k_faultC (some 16) (by decide +kernel) (by decide +kernel) h (fun I L h => ?_))
  refine bL_faults_356 (fun q => absurd q (by decide)) (fun _ => ?_)
  refine bL_faults_361 ?_
  refine bL_faults_366 (l_says 48 32 49 32 (by decide) (by decide) (by decide) (by decide) (by decide) (by decide +kernel) h (fun I L h => ?_))
  have h : Cl I (uT S [110, 111, 100, 101, 115, 51, 59, 32, 108, 105, 110, 107, 50, 32, 49, 32, 48, 32, 49, 32]) := h
  refine bL_faults_380 (fun q => absurd q (by decide)) (fun _ => ?_)
  refine bL_faults_385 (k_faultC (some 16) (by decide +kernel) (by decide +kernel) h (fun I L h => ?_))
  refine bL_faults_389 (fun q => absurd q (by decide)) (fun _ => ?_)
  refine bL_faults_394 (k_erase h (fun I L h => ?_))
  refine bL_faults_398 (fun q => absurd q (by decide)) (fun _ => ?_)
  refine bL_faults_403 ?_
  refine bL_faults_408 (l_says 110 111 100 101 (by decide) (by decide) (by decide) (by decide) (by decide) (by decide +kernel) h (fun I L h => ?_))
  have h : Cl I (uT S [110, 111, 100, 101]) := h
  refine bL_faults_422 (l_says 115 51 46 32 (by decide) (by decide) (by decide) (by decide) (by decide) (by decide +kernel) h (fun I L h => ?_))
  have h : Cl I (uT S [110, 111, 100, 101, 115, 51, 46, 32]) := h
  refine bL_faults_434 (fun q => absurd q (by decide)) (fun _ => ?_)
  refine bL_faults_439 (k_faultC (some 6) (by decide +kernel) (by decide +kernel) h (fun I L h => ?_))
  refine bL_faults_443 (fun q => absurd q (by decide)) (fun _ => ?_)
  refine bL_faults_448 (k_erase h (fun I L h => ?_))
  refine bL_faults_452 (fun q => absurd q (by decide)) (fun _ => ?_)
  refine bL_faults_457 ?_
  refine bL_faults_462 (l_says 110 111 100 101 (by decide) (by decide) (by decide) (by decide) (by decide) (by decide +kernel) h (fun I L h => ?_))
  have h : Cl I (uT S [110, 111, 100, 101]) := h
  refine bL_faults_476 (l_says 51 32 32 32 (by decide) (by decide) (by decide) (by decide) (by decide) (by decide +kernel) h (fun I L h => ?_))
  have h : Cl I (uT S [110, 111, 100, 101, 51, 32, 32, 32]) := h
  refine bL_faults_488 (fun q => absurd q (by decide)) (fun _ => ?_)
  refine bL_faults_493 (k_faultC (some 0) (by decide +kernel) (by decide +kernel) h (fun I L h => ?_))
  refine bL_faults_497 (fun q => absurd q (by decide)) (fun _ => ?_)
  refine bL_faults_500 (k_erase h (fun I L h => ?_))
  refine bL_faults_504 (fun q => absurd q (by decide)) (fun _ => ?_)
  refine bL_faults_509 ?_
  refine bL_faults_514 (l_says 110 111 100 101 (by decide) (by decide) (by decide) (by decide) (by decide) (by decide +kernel) h (fun I L h => ?_))
  have h : Cl I (uT S [110, 111, 100, 101]) := h
  refine bL_faults_528 (l_says 115 56 32 32 (by decide) (by decide) (by decide) (by decide) (by decide) (by decide +kernel) h (fun I L h => ?_))
  have h : Cl I (uT S [110, 111, 100, 101, 115, 56, 32, 32]) := h
  refine bL_faults_540 ?_
  refine bL_faults_543 (fun q => absurd q (by decide)) (fun _ => ?_)
  refine bL_faults_550 (l_says 59 108 105 110 (by decide) (by decide) (by decide) (by decide) (by decide) (by decide +kernel) h (fun I L h => ?_))
  have h : Cl I (uT S [110, 111, 100, 101, 115, 56, 32, 32, 59, 108, 105, 110]) := h
  refine bL_faults_562 (fun q => absurd q (by decide)) (fun _ => ?_)
  refine bL_faults_574 ?_
  refine bL_faults_579 (fun q => absurd q (by decide)) (fun _ => ?_)
  refine bL_faults_589 ?_
  refine bL_faults_602 (l_says 107 48 32 49 (by decide) (by decide) (by decide) (by decide) (by decide) (by decide +kernel) h (fun I L h => ?_))
  have h : Cl I (uT S [110, 111, 100, 101, 115, 56, 32, 32, 59, 108, 105, 110, 107, 48, 32, 49]) := h
  refine bL_faults_605 (l_says 32 49 32 49 (by decide) (by decide) (by decide) (by decide) (by decide) (by decide +kernel) h (fun I L h => ?_))
  have h : Cl I (uT S [110, 111, 100, 101, 115, 56, 32, 32, 59, 108, 105, 110, 107, 48, 32, 49, 32, 49, 32, 49]) := h
  refine bL_faults_617 ?_
  refine bL_faults_543 (fun q => absurd q (by decide)) (fun _ => ?_)
  refine bL_faults_550 (l_says 59 108 105 110 (by decide) (by decide) (by decide) (by decide) (by decide) (by decide +kernel) h (fun I L h => ?_))
  have h : Cl I (uT S [110, 111, 100, 101, 115, 56, 32, 32, 59, 108, 105, 110, 107, 48, 32, 49, 32, 49, 32, 49, 59, 108, 105, 110]) := h
  refine bL_faults_562 (fun q => absurd q (by decide)) (fun _ => ?_)
  refine bL_faults_574 ?_
  refine bL_faults_579 (fun q => absurd q (by decide)) (fun _ => ?_)
  refine bL_faults_589 ?_
  refine bL_faults_602 (l_says 107 48 32 50 (by decide) (by decide) (by decide) (by decide) (by decide) (by decide +kernel) h (fun I L h => ?_))
  have h : Cl I (uT S [110, 111, 100, 101, 115, 56, 32, 32, 59, 108, 105, 110, 107, 48, 32, 49, 32, 49, 32, 49, 59, 108, 105, 110, 107, 48, 32, 50]) := h
  refine bL_faults_605 (l_says 32 49 32 49 (by decide) (by decide) (by decide) (by decide) (by decide) (by decide +kernel) h (fun I L h => ?_))
  have h : Cl I (uT S [110, 111, 100, 101, 115, 56, 32, 32, 59, 108, 105, 110, 107, 48, 32, 49, 32, 49, 32, 49, 59, 108, 105, 110, 107, 48, 32, 50, 32, 49, 32, 49]) := h
  refine bL_faults_617 ?_
  refine bL_faults_543 (fun q => absurd q (by decide)) (fun _ => ?_)
  refine bL_faults_550 (l_says 59 108 105 110 (by decide) (by decide) (by decide) (by decide) (by decide) (by decide +kernel) h (fun I L h => ?_))
  have h : Cl I (uT S [110, 111, 100, 101, 115, 56, 32, 32, 59, 108, 105, 110, 107, 48, 32, 49, 32, 49, 32, 49, 59, 108, 105, 110, 107, 48, 32, 50, 32, 49, 32, 49, 59, 108, 105, 110]) := h
  refine bL_faults_562 (fun q => absurd q (by decide)) (fun _ => ?_)
  refine bL_faults_574 ?_
  refine bL_faults_579 (fun q => absurd q (by decide)) (fun _ => ?_)
  refine bL_faults_589 ?_
  refine bL_faults_602 (l_says 107 48 32 51 (by decide) (by decide) (by decide) (by decide) (by decide) (by decide +kernel) h (fun I L h => ?_))
  have h : Cl I (uT S [110, 111, 100, 101, 115, 56, 32, 32, 59, 108, 105, 110, 107, 48, 32, 49, 32, 49, 32, 49, 59, 108, 105, 110, 107, 48, 32, 50, 32, 49, 32, 49, 59, 108, 105, 110, 107, 48, 32, 51]) := h
  refine bL_faults_605 (l_says 32 49 32 49 (by decide) (by decide) (by decide) (by decide) (by decide) (by decide +kernel) h (fun I L h => ?_))
  have h : Cl I (uT S [110, 111, 100, 101, 115, 56, 32, 32, 59, 108, 105, 110, 107, 48, 32, 49, 32, 49, 32, 49, 59, 108, 105, 110, 107, 48, 32, 50, 32, 49, 32, 49, 59, 108, 105, 110, 107, 48, 32, 51, 32, 49, 32, 49]) := h
  refine bL_faults_617 ?_
  refine bL_faults_543 (fun q => absurd q (by decide)) (fun _ => ?_)
  refine bL_faults_550 (l_says 59 108 105 110 (by decide) (by decide) (by decide) (by decide) (by decide) (by decide +kernel) h (fun I L h => ?_))
  have h : Cl I (uT S [110, 111, 100, 101, 115, 56, 32, 32, 59, 108, 105, 110, 107, 48, 32, 49, 32, 49, 32, 49, 59, 108, 105, 110, 107, 48, 32, 50, 32, 49, 32, 49, 59, 108, 105, 110, 107, 48, 32, 51, 32, 49, 32, 49, 59, 108, 105, 110]) := h
  refine bL_faults_562 (fun q => absurd q (by decide)) (fun _ => ?_)
  refine bL_faults_574 ?_
  refine bL_faults_579 (fun q => absurd q (by decide)) (fun _ => ?_)
  refine bL_faults_589 ?_
  refine bL_faults_602 (l_says 107 48 32 52 (by decide) (by decide) (by decide) (by decide) (by decide) (by decide +kernel) h (fun I L h => ?_))
  have h : Cl I (uT S [110, 111, 100, 101, 115, 56, 32, 32, 59, 108, 105, 110, 107, 48, 32, 49, 32, 49, 32, 49, 59, 108, 105, 110, 107, 48, 32, 50, 32, 49, 32, 49, 59, 108, 105, 110, 107, 48, 32, 51, 32, 49, 32, 49, 59, 108, 105, 110, 107, 48, 32, 52]) := h
  refine bL_faults_605 (l_says 32 49 32 49 (by decide) (by decide) (by decide) (by decide) (by decide) (by decide +kernel) h (fun I L h => ?_))
  have h : Cl I (uT S [110, 111, 100, 101, 115, 56, 32, 32, 59, 108, 105, 110, 107, 48, 32, 49, 32, 49, 32, 49, 59, 108, 105, 110, 107, 48, 32, 50, 32, 49, 32, 49, 59, 108, 105, 110, 107, 48, 32, 51, 32, 49, 32, 49, 59, 108, 105, 110, 107, 48, 32, 52, 32, 49, 32, 49]) := h
  refine bL_faults_617 ?_
  refine bL_faults_543 (fun q => absurd q (by decide)) (fun _ => ?_)
  refine bL_faults_550 (l_says 59 108 105 110 (by decide) (by decide) (by decide) (by decide) (by decide) (by decide +kernel) h (fun I L h => ?_))
  have h : Cl I (uT S [110, 111, 100, 101, 115, 56, 32, 32, 59, 108, 105, 110, 107, 48, 32, 49, 32, 49, 32, 49, 59, 108, 105, 110, 107, 48, 32, 50, 32, 49, 32, 49, 59, 108, 105, 110, 107, 48, 32, 51, 32, 49, 32, 49, 59, 108, 105, 110, 107, 48, 32, 52, 32, 49, 32, 49, 59, 108, 105, 110]) := h
  refine bL_faults_562 (fun q => absurd q (by decide)) (fun _ => ?_)
  refine bL_faults_574 ?_
  refine bL_faults_579 (fun q => absurd q (by decide)) (fun _ => ?_)
  refine bL_faults_589 ?_
  refine bL_faults_602 (l_says 107 48 32 53 (by decide) (by decide) (by decide) (by decide) (by decide) (by decide +kernel) h (fun I L h => ?_))
  have h : Cl I (uT S [110, 111, 100, 101, 115, 56, 32, 32, 59, 108, 105, 110, 107, 48, 32, 49, 32, 49, 32, 49, 59, 108, 105, 110, 107, 48, 32, 50, 32, 49, 32, 49, 59, 108, 105, 110, 107, 48, 32, 51, 32, 49, 32, 49, 59, 108, 105, 110, 107, 48, 32, 52, 32, 49, 32, 49, 59, 108, 105, 110, 107, 48, 32, 53]) := h
  refine bL_faults_605 (l_says 32 49 32 49 (by decide) (by decide) (by decide) (by decide) (by decide) (by decide +kernel) h (fun I L h => ?_))
  have h : Cl I (uT S [110, 111, 100, 101, 115, 56, 32, 32, 59, 108, 105, 110, 107, 48, 32, 49, 32, 49, 32, 49, 59, 108, 105, 110, 107, 48, 32, 50, 32, 49, 32, 49, 59, 108, 105, 110, 107, 48, 32, 51, 32, 49, 32, 49, 59, 108, 105, 110, 107, 48, 32, 52, 32, 49, 32, 49, 59, 108, 105, 110, 107, 48, 32, 53, 32, 49, 32, 49]) := h
  refine bL_faults_617 ?_
  refine bL_faults_543 (fun q => absurd q (by decide)) (fun _ => ?_)
  refine bL_faults_550 (l_says 59 108 105 110 (by decide) (by decide) (by decide) (by decide) (by decide) (by decide +kernel) h (fun I L h => ?_))
  have h : Cl I (uT S [110, 111, 100, 101, 115, 56, 32, 32, 59, 108, 105, 110, 107, 48, 32, 49, 32, 49, 32, 49, 59, 108, 105, 110, 107, 48, 32, 50, 32, 49, 32, 49, 59, 108, 105, 110, 107, 48, 32, 51, 32, 49, 32, 49, 59, 108, 105, 110, 107, 48, 32, 52, 32, 49, 32, 49, 59, 108, 105, 110, 107, 48, 32, 53, 32, 49, 32, 49, 59, 108, 105, 110]) := h
  refine bL_faults_562 (fun q => absurd q (by decide)) (fun _ => ?_)
  refine bL_faults_574 ?_
  refine bL_faults_579 (fun q => absurd q (by decide)) (fun _ => ?_)
  refine bL_faults_589 ?_
  refine bL_faults_602 (l_says 107 48 32 54 (by decide) (by decide) (by decide) (by decide) (by decide) (by decide +kernel) h (fun I L h => ?_))
  have h : Cl I (uT S [110, 111, 100, 101, 115, 56, 32, 32, 59, 108, 105, 110, 107, 48, 32, 49, 32, 49, 32, 49, 59, 108, 105, 110, 107, 48, 32, 50, 32, 49, 32, 49, 59, 108, 105, 110, 107, 48, 32, 51, 32, 49, 32, 49, 59, 108, 105, 110, 107, 48, 32, 52, 32, 49, 32, 49, 59, 108, 105, 110, 107, 48, 32, 53, 32, 49, 32, 49, 59, 108, 105, 110, 107, 48, 32, 54]) := h
  refine bL_faults_605 (l_says 32 49 32 49 (by decide) (by decide) (by decide) (by decide) (by decide) (by decide +kernel) h (fun I L h => ?_))
  have h : Cl I (uT S [110, 111, 100, 101, 115, 56, 32, 32, 59, 108, 105, 110, 107, 48, 32, 49, 32, 49, 32, 49, 59, 108, 105, 110, 107, 48, 32, 50, 32, 49, 32, 49, 59, 108, 105, 110, 107, 48, 32, 51, 32, 49, 32, 49, 59, 108, 105, 110, 107, 48, 32, 52, 32, 49, 32, 49, 59, 108, 105, 110, 107, 48, 32, 53, 32, 49, 32, 49, 59, 108, 105, 110, 107, 48, 32, 54, 32, 49, 32, 49]) := h
  refine bL_faults_617 ?_
  refine bL_faults_543 (fun q => absurd q (by decide)) (fun _ => ?_)
  refine bL_faults_550 (l_says 59 108 105 110 (by decide) (by decide) (by decide) (by decide) (by decide) (by decide +kernel) h (fun I L h => ?_))
  have h : Cl I (uT S [110, 111, 100, 101, 115, 56, 32, 32, 59, 108, 105, 110, 107, 48, 32, 49, 32, 49, 32, 49, 59, 108, 105, 110, 107, 48, 32, 50, 32, 49, 32, 49, 59, 108, 105, 110, 107, 48, 32, 51, 32, 49, 32, 49, 59, 108, 105, 110, 107, 48, 32, 52, 32, 49, 32, 49, 59, 108, 105, 110, 107, 48, 32, 53, 32, 49, 32, 49, 59, 108, 105, 110, 107, 48, 32, 54, 32, 49, 32, 49, 59, 108, 105, 110]) := h
  refine bL_faults_562 (fun q => absurd q (by decide)) (fun _ => ?_)
  refine bL_faults_574 ?_
  refine bL_faults_579 (fun q => absurd q (by decide)) (fun _ => ?_)
  refine bL_faults_589 ?_
  refine bL_faults_602 (l_says 107 48 32 55 (by decide) (by decide) (by decide) (by decide) (by decide) (by decide +kernel) h (fun I L h => ?_))
  have h : Cl I (uT S [110, 111, 100, 101, 115, 56, 32, 32, 59, 108, 105, 110, 107, 48, 32, 49, 32, 49, 32, 49, 59, 108, 105, 110, 107, 48, 32, 50, 32, 49, 32, 49, 59, 108, 105, 110, 107, 48, 32, 51, 32, 49, 32, 49, 59, 108, 105, 110, 107, 48, 32, 52, 32, 49, 32, 49, 59, 108, 105, 110, 107, 48, 32, 53, 32, 49, 32, 49, 59, 108, 105, 110, 107, 48, 32, 54, 32, 49, 32, 49, 59, 108, 105, 110, 107, 48, 32, 55]) := h
  refine bL_faults_605 (l_says 32 49 32 49 (by decide) (by decide) (by decide) (by decide) (by decide) (by decide +kernel) h (fun I L h => ?_))
  have h : Cl I (uT S [110, 111, 100, 101, 115, 56, 32, 32, 59, 108, 105, 110, 107, 48, 32, 49, 32, 49, 32, 49, 59, 108, 105, 110, 107, 48, 32, 50, 32, 49, 32, 49, 59, 108, 105, 110, 107, 48, 32, 51, 32, 49, 32, 49, 59, 108, 105, 110, 107, 48, 32, 52, 32, 49, 32, 49, 59, 108, 105, 110, 107, 48, 32, 53, 32, 49, 32, 49, 59, 108, 105, 110, 107, 48, 32, 54, 32, 49, 32, 49, 59, 108, 105, 110, 107, 48, 32, 55, 32, 49, 32, 49]) := h
  refine bL_faults_617 ?_
  refine bL_faults_543 (fun q => absurd q (by decide)) (fun _ => ?_)
  refine bL_faults_550 (l_says 59 108 105 110 (by decide) (by decide) (by decide) (by decide) (by decide) (by decide +kernel) h (fun I L h => ?_))
  have h : Cl I (uT S [110, 111, 100, 101, 115, 56, 32, 32, 59, 108, 105, 110, 107, 48, 32, 49, 32, 49, 32, 49, 59, 108, 105, 110, 107, 48, 32, 50, 32, 49, 32, 49, 59, 108, 105, 110, 107, 48, 32, 51, 32, 49, 32, 49, 59, 108, 105, 110, 107, 48, 32, 52, 32, 49, 32, 49, 59, 108, 105, 110, 107, 48, 32, 53, 32, 49, 32, 49, 59, 108, 105, 110, 107, 48, 32, 54, 32, 49, 32, 49, 59, 108, 105, 110, 107, 48, 32, 55, 32, 49, 32, 49, 59, 108, 105, 110]) := h
  refine bL_faults_562 (fun _ => ?_) (fun q => absurd q (by decide))
  refine bL_faults_578 ?_
  refine bL_faults_579 (fun _ => ?_) (fun q => absurd q (by decide))
  refine bL_faults_597 ?_
  refine bL_faults_602 (l_says 107 49 32 50 (by decide) (by decide) (by decide) (by decide) (by decide) (by decide +kernel) h (fun I L h => ?_))
  have h : Cl I (uT S [110, 111, 100, 101, 115, 56, 32, 32, 59, 108, 105, 110, 107, 48, 32, 49, 32, 49, 32, 49, 59, 108, 105, 110, 107, 48, 32, 50, 32, 49, 32, 49, 59, 108, 105, 110, 107, 48, 32, 51, 32, 49, 32, 49, 59, 108, 105, 110, 107, 48, 32, 52, 32, 49, 32, 49, 59, 108, 105, 110, 107, 48, 32, 53, 32, 49, 32, 49, 59, 108, 105, 110, 107, 48, 32, 54, 32, 49, 32, 49, 59, 108, 105, 110, 107, 48, 32, 55, 32, 49, 32, 49, 59, 108, 105, 110, 107, 49, 32, 50]) := h
  refine bL_faults_605 (l_says 32 49 32 49 (by decide) (by decide) (by decide) (by decide) (by decide) (by decide +kernel) h (fun I L h => ?_))
  have h : Cl I (uT S [110, 111, 100, 101, 115, 56, 32, 32, 59, 108, 105, 110, 107, 48, 32, 49, 32, 49, 32, 49, 59, 108, 105, 110, 107, 48, 32, 50, 32, 49, 32, 49, 59, 108, 105, 110, 107, 48, 32, 51, 32, 49, 32, 49, 59, 108, 105, 110, 107, 48, 32, 52, 32, 49, 32, 49, 59, 108, 105, 110, 107, 48, 32, 53, 32, 49, 32, 49, 59, 108, 105, 110, 107, 48, 32, 54, 32, 49, 32, 49, 59, 108, 105, 110, 107, 48, 32, 55, 32, 49, 32, 49, 59, 108, 105, 110, 107, 49, 32, 50, 32, 49, 32, 49]) := h
  refine bL_faults_617 ?_
  refine bL_faults_543 (fun q => absurd q (by decide)) (fun _ => ?_)
  refine bL_faults_550 (l_says 59 108 105 110 (by decide) (by decide) (by decide) (by decide) (by decide) (by decide +kernel) h (fun I L h => ?_))
  have h : Cl I (uT S [110, 111, 100, 101, 115, 56, 32, 32, 59, 108, 105, 110, 107, 48, 32, 49, 32, 49, 32, 49, 59, 108, 105, 110, 107, 48, 32, 50, 32, 49, 32, 49, 59, 108, 105, 110, 107, 48, 32, 51, 32, 49, 32, 49, 59, 108, 105, 110, 107, 48, 32, 52, 32, 49, 32, 49, 59, 108, 105, 110, 107, 48, 32, 53, 32, 49, 32, 49, 59, 108, 105, 110, 107, 48, 32, 54, 32, 49, 32, 49, 59, 108, 105, 110, 107, 48, 32, 55, 32, 49, 32, 49, 59, 108, 105, 110, 107, 49, 32, 50, 32, 49, 32, 49, 59, 108, 105, 110]) := h
  refine bL_faults_562 (fun _ => ?_) (fun q => absurd q (by decide))
  refine bL_faults_578 ?_
  refine bL_faults_579 (fun _ => ?_) (fun q => absurd q (by decide))
  refine bL_faults_597 ?_
  refine bL_faults_602 (l_says 107 49 32 51 (by decide) (by decide) (by decide) (by decide) (by decide) (by decide +kernel) h (fun I L h => ?_))
  have h : Cl I (uT S [110, 111, 100, 101, 115, 56, 32, 32, 59, 108, 105, 110, 107, 48, 32, 49, 32, 49, 32, 49, 59, 108, 105, 110, 107, 48, 32, 50, 32, 49, 32, 49, 59, 108, 105, 110, 107, 48, 32, 51, 32, 49, 32, 49, 59, 108, 105, 110, 107, 48, 32, 52, 32, 49, 32, 49, 59, 108, 105, 110, 107, 48, 32, 53, 32, 49, 32, 49, 59, 108, 105, 110, 107, 48, 32, 54, 32, 49, 32, 49, 59, 108, 105, 110, 107, 48, 32, 55, 32, 49, 32, 49, 59, 108, 105, 110, 107, 49, 32, 50, 32, 49, 32, 49, 59, 108, 105, 110, 107, 49, 32, 51]) := h
  refine bL_faults_605 (l_says 32 49 32 49 (by decide) (by decide) (by decide) (by decide) (by decide) (by decide +kernel) h (fun I L h => ?_))
  have h : Cl I (uT S [110, 111, 100, 101, 115, 56, 32, 32, 59, 108, 105, 110, 107, 48, 32, 49, 32, 49, 32, 49, 59, 108, 105, 110, 107, 48, 32, 50, 32, 49, 32, 49, 59, 108, 105, 110, 107, 48, 32, 51, 32, 49, 32, 49, 59, 108, 105, 110, 107, 48, 32, 52, 32, 49, 32, 49, 59, 108, 105, 110, 107, 48, 32, 53, 32, 49, 32, 49, 59, 108, 105, 110, 107, 48, 32, 54, 32, 49, 32, 49, 59, 108, 105, 110, 107, 48, 32, 55, 32, 49, 32, 49, 59, 108, 105, 110, 107, 49, 32, 50, 32, 49, 32, 49, 59, 108, 105, 110, 107, 49, 32, 51, 32, 49, 32, 49]) := h
  refine bL_faults_617 ?_
  refine bL_faults_543 (fun q => absurd q (by decide)) (fun _ => ?_)
  refine bL_faults_550 (l_says 59 108 105 110 (by decide) (by decide) (by decide) (by decide) (by decide) (by decide +kernel) h (fun I L h => ?_))
  have h : Cl I (uT S [110, 111, 100, 101, 115, 56, 32, 32, 59, 108, 105, 110, 107, 48, 32, 49, 32, 49, 32, 49, 59, 108, 105, 110, 107, 48, 32, 50, 32, 49, 32, 49, 59, 108, 105, 110, 107, 48, 32, 51, 32, 49, 32, 49, 59, 108, 105, 110, 107, 48, 32, 52, 32, 49, 32, 49, 59, 108, 105, 110, 107, 48, 32, 53, 32, 49, 32, 49, 59, 108, 105, 110, 107, 48, 32, 54, 32, 49, 32, 49, 59, 108, 105, 110, 107, 48, 32, 55, 32, 49, 32, 49, 59, 108, 105, 110, 107, 49, 32, 50, 32, 49, 32, 49, 59, 108, 105, 110, 107, 49, 32, 51, 32, 49, 32, 49, 59, 108, 105, 110]) := h
  refine bL_faults_562 (fun _ => ?_) (fun q => absurd q (by decide))
  refine bL_faults_578 ?_
  refine bL_faults_579 (fun _ => ?_) (fun q => absurd q (by decide))
  refine bL_faults_597 ?_
  refine bL_faults_602 (l_says 107 49 32 52 (by decide) (by decide) (by decide) (by decide) (by decide) (by decide +kernel) h (fun I L h => ?_))
  have h : Cl I (uT S [110, 111, 100, 101, 115, 56, 32, 32, 59, 108, 105, 110, 107, 48, 32, 49, 32, 49, 32, 49, 59, 108, 105, 110, 107, 48, 32, 50, 32, 49, 32, 49, 59, 108, 105, 110, 107, 48, 32, 51, 32, 49, 32, 49, 59, 108, 105, 110, 107, 48, 32, 52, 32, 49, 32, 49, 59, 108, 105, 110, 107, 48, 32, 53, 32, 49, 32, 49, 59, 108, 105, 110, 107, 48, 32, 54, 32, 49, 32, 49, 59, 108, 105, 110, 107, 48, 32, 55, 32, 49, 32, 49, 59, 108, 105, 110, 107, 49, 32, 50, 32, 49, 32, 49, 59, 108, 105, 110, 107, 49, 32, 51, 32, 49, 32, 49, 59, 108, 105, 110, 107, 49, 32, 52]) := h
  refine bL_faults_605 (l_says 32 49 32 49 (by decide) (by decide) (by decide) (by decide) (by decide) (by decide +kernel) h (fun I L h => ?_))
  have h : Cl I (uT S [110, 111, 100, 101, 115, 56, 32, 32, 59, 108, 105, 110, 107, 48, 32, 49, 32, 49, 32, 49, 59, 108, 105, 110, 107, 48, 32, 50, 32, 49, 32, 49, 59, 108, 105, 110, 107, 48, 32, 51, 32, 49, 32, 49, 59, 108, 105, 110, 107, 48, 32, 52, 32, 49, 32, 49, 59, 108, 105, 110, 107, 48, 32, 53, 32, 49, 32, 49, 59, 108, 105, 110, 107, 48, 32, 54, 32, 49, 32, 49, 59, 108, 105, 110, 107, 48, 32, 55, 32, 49, 32, 49, 59, 108, 105, 110, 107, 49, 32, 50, 32, 49, 32, 49, 59, 108, 105, 110, 107, 49, 32, 51, 32, 49, 32, 49, 59, 108, 105, 110, 107, 49, 32, 52, 32, 49, 32, 49]) := h
  refine bL_faults_617 ?_
  refine bL_faults_543 (fun q => absurd q (by decide)) (fun _ => ?_)
  refine bL_faults_550 (l_says 59 108 105 110 (by decide) (by decide) (by decide) (by decide) (by decide) (by decide +kernel) h (fun I L h => ?_))
  have h : Cl I (uT S [110, 111, 100, 101, 115, 56, 32, 32, 59, 108, 105, 110, 107, 48, 32, 49, 32, 49, 32, 49, 59, 108, 105, 110, 107, 48, 32, 50, 32, 49, 32, 49, 59, 108, 105, 110, 107, 48, 32, 51, 32, 49, 32, 49, 59, 108, 105, 110, 107, 48, 32, 52, 32, 49, 32, 49, 59, 108, 105, 110, 107, 48, 32, 53, 32, 49, 32, 49, 59, 108, 105, 110, 107, 48, 32, 54, 32, 49, 32, 49, 59, 108, 105, 110, 107, 48, 32, 55, 32, 49, 32, 49, 59, 108, 105, 110, 107, 49, 32, 50, 32, 49, 32, 49, 59, 108, 105, 110, 107, 49, 32, 51, 32, 49, 32, 49, 59, 108, 105, 110, 107, 49, 32, 52, 32, 49, 32, 49, 59, 108, 105, 110]) := h
  refine bL_faults_562 (fun _ => ?_) (fun q => absurd q (by decide))
  refine bL_faults_578 ?_
  refine bL_faults_579 (fun _ => ?_) (fun q => absurd q (by decide))
  refine bL_faults_597 ?_
  refine bL_faults_602 (l_says 107 49 32 53 (by decide) (by decide) (by decide) (by decide) (by decide) (by decide +kernel) h (fun I L h => ?_))
  have h : Cl I (uT S [110, 111, 100, 101, 115, 56, 32, 32, 59, 108, 105, 110, 107, 48, 32, 49, 32, 49, 32, 49, 59, 108, 105, 110, 107, 48, 32, 50, 32, 49, 32, 49, 59, 108, 105, 110, 107, 48, 32, 51, 32, 49, 32, 49, 59, 108, 105, 110, 107, 48, 32, 52, 32, 49, 32, 49, 59, 108, 105, 110, 107, 48, 32, 53, 32, 49, 32, 49, 59, 108, 105, 110, 107, 48, 32, 54, 32, 49, 32, 49, 59, 108, 105, 110, 107, 48, 32, 55, 32, 49, 32, 49, 59, 108, 105, 110, 107, 49, 32, 50, 32, 49, 32, 49, 59, 108, 105, 110, 107, 49, 32, 51, 32, 49, 32, 49, 59, 108, 105, 110, 107, 49, 32, 52, 32, 49, 32, 49, 59, 108, 105, 110, 107, 49, 32, 53]) := h
  refine bL_faults_605 (l_says 32 49 32 49 (by decide) (by decide) (by decide) (by decide) (by decide) (by decide +kernel) h (fun I L h => ?_))
  have h : Cl I (uT S [110, 111, 100, 101, 115, 56, 32, 32, 59, 108, 105, 110, 107, 48, 32, 49, 32, 49, 32, 49, 59, 108, 105, 110, 107, 48, 32, 50, 32, 49, 32, 49, 59, 108, 105, 110, 107, 48, 32, 51, 32, 49, 32, 49, 59, 108, 105, 110, 107, 48, 32, 52, 32, 49, 32, 49, 59, 108, 105, 110, 107, 48, 32, 53, 32, 49, 32, 49, 59, 108, 105, 110, 107, 48, 32, 54, 32, 49, 32, 49, 59, 108, 105, 110, 107, 48, 32, 55, 32, 49, 32, 49, 59, 108, 105, 110, 107, 49, 32, 50, 32, 49, 32, 49, 59, 108, 105, 110, 107, 49, 32, 51, 32, 49, 32, 49, 59, 108, 105, 110, 107, 49, 32, 52, 32, 49, 32, 49, 59, 108, 105, 110, 107, 49, 32, 53, 32, 49, 32, 49]) := h
  refine bL_faults_617 ?_
  refine bL_faults_543 (fun q => absurd q (by decide)) (fun _ => ?_)
  refine bL_faults_550 (l_says 59 108 105 110 (by decide) (by decide) (by decide) (by decide) (by decide) (by decide +kernel) h (fun I L h => ?_))
  have h : Cl I (uT S [110, 111, 100, 101, 115, 56, 32, 32, 59, 108, 105, 110, 107, 48, 32, 49, 32, 49, 32, 49, 59, 108, 105, 110, 107, 48, 32, 50, 32, 49, 32, 49, 59, 108, 105, 110, 107, 48, 32, 51, 32, 49, 32, 49, 59, 108, 105, 110, 107, 48, 32, 52, 32, 49, 32, 49, 59, 108, 105, 110, 107, 48, 32, 53, 32, 49, 32, 49, 59, 108, 105, 110, 107, 48, 32, 54, 32, 49, 32, 49, 59, 108, 105, 110, 107, 48, 32, 55, 32, 49, 32, 49, 59, 108, 105, 110, 107, 49, 32, 50, 32, 49, 32, 49, 59, 108, 105, 110, 107, 49, 32, 51, 32, 49, 32, 49, 59, 108, 105, 110, 107, 49, 32, 52, 32, 49, 32, 49, 59, 108, 105, 110, 107, 49, 32, 53, 32, 49, 32, 49, 59, 108, 105, 110]) := h
  refine bL_faults_562 (fun _ => ?_) (fun q => absurd q (by decide))
  refine bL_faults_578 ?_
  refine bL_faults_579 (fun _ => ?_) (fun q => absurd q (by decide))
  refine bL_faults_597 ?_
  refine bL_faults_602 (l_says 107 49 32 54 (by decide) (by decide) (by decide) (by decide) (by decide) (by decide +kernel) h (fun I L h => ?_))
  have h : Cl I (uT S [110, 111, 100, 101, 115, 56, 32, 32, 59, 108, 105, 110, 107, 48, 32, 49, 32, 49, 32, 49, 59, 108, 105, 110, 107, 48, 32, 50, 32, 49, 32, 49, 59, 108, 105, 110, 107, 48, 32, 51, 32, 49, 32, 49, 59, 108, 105, 110, 107, 48, 32, 52, 32, 49, 32, 49, 59, 108, 105, 110, 107, 48, 32, 53, 32, 49, 32, 49, 59, 108, 105, 110, 107, 48, 32, 54, 32, 49, 32, 49, 59, 108, 105, 110, 107, 48, 32, 55, 32, 49, 32, 49, 59, 108, 105, 110, 107, 49, 32, 50, 32, 49, 32, 49, 59, 108, 105, 110, 107, 49, 32, 51, 32, 49, 32, 49, 59, 108, 105, 110, 107, 49, 32, 52, 32, 49, 32, 49, 59, 108, 105, 110, 107, 49, 32, 53, 32, 49, 32, 49, 59, 108, 105, 110, 107, 49, 32, 54]) := h
  refine bL_faults_605 (l_says 32 49 32 49 (by decide) (by decide) (by decide) (by decide) (by decide) (by decide +kernel) h (fun I L h => ?_))
  have h : Cl I (uT S [110, 111, 100, 101, 115, 56, 32, 32, 59, 108, 105, 110, 107, 48, 32, 49, 32, 49, 32, 49, 59, 108, 105, 110, 107, 48, 32, 50, 32, 49, 32, 49, 59, 108, 105, 110, 107, 48, 32, 51, 32, 49, 32, 49, 59, 108, 105, 110, 107, 48, 32, 52, 32, 49, 32, 49, 59, 108, 105, 110, 107, 48, 32, 53, 32, 49, 32, 49, 59, 108, 105, 110, 107, 48, 32, 54, 32, 49, 32, 49, 59, 108, 105, 110, 107, 48, 32, 55, 32, 49, 32, 49, 59, 108, 105, 110, 107, 49, 32, 50, 32, 49, 32, 49, 59, 108, 105, 110, 107, 49, 32, 51, 32, 49, 32, 49, 59, 108, 105, 110, 107, 49, 32, 52, 32, 49, 32, 49, 59, 108, 105, 110, 107, 49, 32, 53, 32, 49, 32, 49, 59, 108, 105, 110, 107, 49, 32, 54, 32, 49, 32, 49]) := h
  refine bL_faults_617 ?_
  refine bL_faults_543 (fun q => absurd q (by decide)) (fun _ => ?_)
  refine bL_faults_550 (l_says 59 108 105 110 (by decide) (by decide) (by decide) (by decide) (by decide) (by decide +kernel) h (fun I L h => ?_))
  have h : Cl I (uT S [110, 111, 100, 101, 115, 56, 32, 32, 59, 108, 105, 110, 107, 48, 32, 49, 32, 49, 32, 49, 59, 108, 105, 110, 107, 48, 32, 50, 32, 49, 32, 49, 59, 108, 105, 110, 107, 48, 32, 51, 32, 49, 32, 49, 59, 108, 105, 110, 107, 48, 32, 52, 32, 49, 32, 49, 59, 108, 105, 110, 107, 48, 32, 53, 32, 49, 32, 49, 59, 108, 105, 110, 107, 48, 32, 54, 32, 49, 32, 49, 59, 108, 105, 110, 107, 48, 32, 55, 32, 49, 32, 49, 59, 108, 105, 110, 107, 49, 32, 50, 32, 49, 32, 49, 59, 108, 105, 110, 107, 49, 32, 51, 32, 49, 32, 49, 59, 108, 105, 110, 107, 49, 32, 52, 32, 49, 32, 49, 59, 108, 105, 110, 107, 49, 32, 53, 32, 49, 32, 49, 59, 108, 105, 110, 107, 49, 32, 54, 32, 49, 32, 49, 59, 108, 105, 110]) := h
  refine bL_faults_562 (fun _ => ?_) (fun q => absurd q (by decide))
  refine bL_faults_578 ?_
  refine bL_faults_579 (fun _ => ?_) (fun q => absurd q (by decide))
  refine bL_faults_597 ?_
  refine bL_faults_602 (l_says 107 49 32 55 (by decide) (by decide) (by decide) (by decide) (by decide) (by decide +kernel) h (fun I L h => ?_))
  have h : Cl I (uT S [110, 111, 100, 101, 115, 56, 32, 32, 59, 108, 105, 110, 107, 48, 32, 49, 32, 49, 32, 49, 59, 108, 105, 110, 107, 48, 32, 50, 32, 49, 32, 49, 59, 108, 105, 110, 107, 48, 32, 51, 32, 49, 32, 49, 59, 108, 105, 110, 107, 48, 32, 52, 32, 49, 32, 49, 59, 108, 105, 110, 107, 48, 32, 53, 32, 49, 32, 49, 59, 108, 105, 110, 107, 48, 32, 54, 32, 49, 32, 49, 59, 108, 105, 110, 107, 48, 32, 55, 32, 49, 32, 49, 59, 108, 105, 110, 107, 49, 32, 50, 32, 49, 32, 49, 59, 108, 105, 110, 107, 49, 32, 51, 32, 49, 32, 49, 59, 108, 105, 110, 107, 49, 32, 52, 32, 49, 32, 49, 59, 108, 105, 110, 107, 49, 32, 53, 32, 49, 32, 49, 59, 108, 105, 110, 107, 49, 32, 54, 32, 49, 32, 49, 59, 108, 105, 110, 107, 49, 32, 55]) := h
  refine bL_faults_605 (l_says 32 49 32 49 (by decide) (by decide) (by decide) (by decide) (by decide) (by decide +kernel) h (fun I L h => ?_))
  have h : Cl I (uT S [110, 111, 100, 101, 115, 56, 32, 32, 59, 108, 105, 110, 107, 48, 32, 49, 32, 49, 32, 49, 59, 108, 105, 110, 107, 48, 32, 50, 32, 49, 32, 49, 59, 108, 105, 110, 107, 48, 32, 51, 32, 49, 32, 49, 59, 108, 105, 110, 107, 48, 32, 52, 32, 49, 32, 49, 59, 108, 105, 110, 107, 48, 32, 53, 32, 49, 32, 49, 59, 108, 105, 110, 107, 48, 32, 54, 32, 49, 32, 49, 59, 108, 105, 110, 107, 48, 32, 55, 32, 49, 32, 49, 59, 108, 105, 110, 107, 49, 32, 50, 32, 49, 32, 49, 59, 108, 105, 110, 107, 49, 32, 51, 32, 49, 32, 49, 59, 108, 105, 110, 107, 49, 32, 52, 32, 49, 32, 49, 59, 108, 105, 110, 107, 49, 32, 53, 32, 49, 32, 49, 59, 108, 105, 110, 107, 49, 32, 54, 32, 49, 32, 49, 59, 108, 105, 110, 107, 49, 32, 55, 32, 49, 32, 49]) := h
  refine bL_faults_617 ?_
  refine bL_faults_543 (fun q => absurd q (by decide)) (fun _ => ?_)
  refine bL_faults_550 (l_says 59 108 105 110 (by decide) (by decide) (by decide) (by decide) (by decide) (by decide +kernel) h (fun I L h => ?_))
  have h : Cl I (uT S [110, 111, 100, 101, 115, 56, 32, 32, 59, 108, 105, 110, 107, 48, 32, 49, 32, 49, 32, 49, 59, 108, 105, 110, 107, 48, 32, 50, 32, 49, 32, 49, 59, 108, 105, 110, 107, 48, 32, 51, 32, 49, 32, 49, 59, 108, 105, 110, 107, 48, 32, 52, 32, 49, 32, 49, 59, 108, 105, 110, 107, 48, 32, 53, 32, 49, 32, 49, 59, 108, 105, 110, 107, 48, 32, 54, 32, 49, 32, 49, 59, 108, 105, 110, 107, 48, 32, 55, 32, 49, 32, 49, 59, 108, 105, 110, 107, 49, 32, 50, 32, 49, 32, 49, 59, 108, 105, 110, 107, 49, 32, 51, 32, 49, 32, 49, 59, 108, 105, 110, 107, 49, 32, 52, 32, 49, 32, 49, 59, 108, 105, 110, 107, 49, 32, 53, 32, 49, 32, 49, 59, 108, 105, 110, 107, 49, 32, 54, 32, 49, 32, 49, 59, 108, 105, 110, 107, 49, 32, 55, 32, 49, 32, 49, 59, 108, 105, 110]) := h
  refine bL_faults_562 (fun _ => ?_) (fun q => absurd q (by decide))
  refine bL_faults_578 ?_
  refine bL_faults_579 (fun _ => ?_) (fun q => absurd q (by decide))
  refine bL_faults_597 ?_
  refine bL_faults_602 (l_says 107 49 32 56 (by decide) (by decide) (by decide) (by decide) (by decide) (by decide +kernel) h (fun I L h => ?_))
  have h : Cl I (uT S [110, 111, 100, 101, 115, 56, 32, 32, 59, 108, 105, 110, 107, 48, 32, 49, 32, 49, 32, 49, 59, 108, 105, 110, 107, 48, 32, 50, 32, 49, 32, 49, 59, 108, 105, 110, 107, 48, 32, 51, 32, 49, 32, 49, 59, 108, 105, 110, 107, 48, 32, 52, 32, 49, 32, 49, 59, 108, 105, 110, 107, 48, 32, 53, 32, 49, 32, 49, 59, 108, 105, 110, 107, 48, 32, 54, 32, 49, 32, 49, 59, 108, 105, 110, 107, 48, 32, 55, 32, 49, 32, 49, 59, 108, 105, 110, 107, 49, 32, 50, 32, 49, 32, 49, 59, 108, 105, 110, 107, 49, 32, 51, 32, 49, 32, 49, 59, 108, 105, 110, 107, 49, 32, 52, 32, 49, 32, 49, 59, 108, 105, 110, 107, 49, 32, 53, 32, 49, 32, 49, 59, 108, 105, 110, 107, 49, 32, 54, 32, 49, 32, 49, 59, 108, 105, 110, 107, 49, 32, 55, 32, 49, 32, 49, 59, 108, 105, 110, 107, 49, 32, 56]) := h
  refine bL_faults_605 (l_says 32 49 32 49 (by decide) (by decide) (by decide) (by decide) (by decide) (by decide +kernel) h (fun I L h => ?_))
  have h : Cl I (uT S [110, 111, 100, 101, 115, 56, 32, 32, 59, 108, 105, 110, 107, 48, 32, 49, 32, 49, 32, 49, 59, 108, 105, 110, 107, 48, 32, 50, 32, 49, 32, 49, 59, 108, 105, 110, 107, 48, 32, 51, 32, 49, 32, 49, 59, 108, 105, 110, 107, 48, 32, 52, 32, 49, 32, 49, 59, 108, 105, 110, 107, 48, 32, 53, 32, 49, 32, 49, 59, 108, 105, 110, 107, 48, 32, 54, 32, 49, 32, 49, 59, 108, 105, 110, 107, 48, 32, 55, 32, 49, 32, 49, 59, 108, 105, 110, 107, 49, 32, 50, 32, 49, 32, 49, 59, 108, 105, 110, 107, 49, 32, 51, 32, 49, 32, 49, 59, 108, 105, 110, 107, 49, 32, 52, 32, 49, 32, 49, 59, 108, 105, 110, 107, 49, 32, 53, 32, 49, 32, 49, 59, 108, 105, 110, 107, 49, 32, 54, 32, 49, 32, 49, 59, 108, 105, 110, 107, 49, 32, 55, 32, 49, 32, 49, 59, 108, 105, 110, 107, 49, 32, 56, 32, 49, 32, 49]) := h
  refine bL_faults_617 ?_
  refine bL_faults_543 (fun _ => ?_) (fun q => absurd q (by decide))
  refine bL_faults_623 (fun q => absurd q (by decide)) (fun _ => ?_)
  refine bL_faults_628 (k_len 176 rfl h (fun I L h => ?_))
  refine bL_faults_634 (fun q => absurd q (by decide)) (fun _ => ?_)
  refine bL_faults_640 (k_faultC (some 171) (by decide +kernel) (by decide +kernel) h (fun I L h => ?_))
  refine bL_faults_644 (fun q => absurd q (by decide)) (fun _ => ?_)
  refine bL_faults_650 ?_
  refine bL_faults_655 (k_erase h (fun I L h => ?_))
  refine bL_faults_661 (fun q => absurd q (by decide)) (fun _ => ?_)
  refine bL_faults_667 (k_writeBad (by decide) h (fun I L h => ?_))
  refine bL_faults_674 (fun q => absurd q (by decide)) (fun _ => ?_)
  refine bL_faults_679 (k_writeBad (by decide) h (fun I L h => ?_))
  refine bL_faults_684 (fun q => absurd q (by decide)) (fun _ => ?_)
  refine bL_faults_689 (l_wholeT h (fun I L h => ?_))
  refine bL_faults_693 (fun q => absurd (lg_self _) q) (fun _ => ?_)
  refine bL_faults_698 (k_acts h (fun I L h => ?_))
  refine bL_faults_704 (fun q => absurd rfl q) (fun _ => ?_)
  refine bL_faults_708 ?_
  exact bL_faults_713 (Or.inr rfl) (K I L h)
