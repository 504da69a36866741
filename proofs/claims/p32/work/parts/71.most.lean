/-! ===== fourteen links, not fifteen ===== -/
def q_s0 : g_St := (2, 0, fun _ => 0, fun _ => 0, fun _ => 0, fun _ => 0, 0, fun _ => 0)
theorem k_lnk {S : q_S} {t : List Nat} {I : Nat → Nat → Int32} {L : Nat → Int64} {Q : Option Value → (Nat → Nat → Int32) → (Nat → Int64) → Prop} (n : Nat) (hn : S.1.2.1 = n) (h : Cl I (uT S t)) (K : ∀ (I' : Nat → Nat → Int32) (L' : Nat → Int64), Cl I' (uT S t) → Q (some (.int (nI n))) I' L') : XS mX9_count 0 [(0, .ref 0), (1, .int (1 : Int32))] [] I L Q := by
  subst hn
  exact k_count 1 rfl (by decide) h K
theorem k_cost {S : q_S} {t : List Nat} {I : Nat → Nat → Int32} {L : Nat → Int64} {Q : Option Value → (Nat → Nat → Int32) → (Nat → Int64) → Prop} {x : Int32} (l c : Nat) (hx : x = nI l) (hl : l < S.1.2.1) (hc : S.1.2.2.2.2.1 l = c) (h : Cl I (uT S t)) (K : ∀ (I' : Nat → Nat → Int32) (L' : Nat → Int64), Cl I' (uT S t) → Q (some (.int (nI c))) I' L') : XS mX9_link 0 [(0, .ref 0), (1, .int x), (2, .int (2 : Int32))] [] I L Q := by
  subst hc
  exact k_link (S := uT S t) l 2 hx rfl hl (by decide) h K
def q_C1 : List g_Cl := [.inl 8, .inr (0, 1, 1, 2), .inr (0, 2, 1, 2), .inr (0, 3, 1, 2), .inr (0, 4, 1, 2), .inr (0, 5, 1, 2), .inr (0, 6, 1, 2), .inr (0, 7, 1, 2), .inr (1, 2, 1, 2), .inr (1, 3, 1, 2), .inr (1, 4, 1, 2), .inr (1, 5, 1, 2), .inr (1, 6, 1, 2), .inr (1, 7, 1, 2), .inr (1, 0, 5, 2)]
def q_s1 : g_St := q_C1.foldl g_ap q_s0
set_option maxHeartbeats 4000000 in
theorem l_most2 {S : q_S} {I : Nat → Nat → Int32} {L : Nat → Int64} {Q : Option Value → (Nat → Nat → Int32) → (Nat → Int64) → Prop} (h1 : S.1 = q_s1) (h : Cl I (uT S [])) (K : ∀ (I' : Nat → Nat → Int32) (L' : Nat → Int64), Cl I' (uT S []) → Q (some (.int (1))) I' L') : XS mL_most 140 [(0, .ref 0)] [.int (nI 15)] I L Q := by
  refine bL_most_140 (fun q => absurd q (by decide)) (fun _ => ?_)
  refine bL_most_145 (k_lnk 13 (by rw [h1]; decide +kernel) h (fun I L h => ?_))
  refine bL_most_150 (fun q => absurd q (by decide)) (fun _ => ?_)
  refine bL_most_155 (k_cost 0 5 (by decide) (by rw [h1]; decide +kernel) (by rw [h1]; decide +kernel) h (fun I L h => ?_))
  refine bL_most_161 (fun q => absurd q (by decide)) (fun _ => ?_)
  refine bL_most_165 (k_cost 1 1 (by decide) (by rw [h1]; decide +kernel) (by rw [h1]; decide +kernel) h (fun I L h => ?_))
  refine bL_most_171 (fun _ => ?_) (fun q => absurd q (by decide))
  refine bL_most_177 (l_says 108 105 110 107 (by decide) (by decide) (by decide) (by decide) (by decide) (by decide +kernel) h (fun I L h => ?_))
  have h : Cl I (uT S [108, 105, 110, 107]) := h
  refine bL_most_189 (l_says 50 51 32 32 (by decide) (by decide) (by decide) (by decide) (by decide) (by decide +kernel) h (fun I L h => ?_))
  have h : Cl I (uT S [108, 105, 110, 107, 50, 51, 32, 32]) := h
  refine bL_most_201 (k_fault (some 4) (by rw [h1]; decide +kernel) h (fun I L h => ?_))
  refine bL_most_205 (fun q => absurd q (by decide)) (fun _ => ?_)
  refine bL_most_209 (k_erase h (fun I L h => ?_))
  refine bL_most_213 (fun _ => ?_) (fun q => absurd q (by decide))
  refine bL_most_220 (l_says 108 105 110 107 (by decide) (by decide) (by decide) (by decide) (by decide) (by decide +kernel) h (fun I L h => ?_))
  have h : Cl I (uT S [108, 105, 110, 107]) := h
  refine bL_most_232 (l_says 50 32 51 32 (by decide) (by decide) (by decide) (by decide) (by decide) (by decide +kernel) h (fun I L h => ?_))
  have h : Cl I (uT S [108, 105, 110, 107, 50, 32, 51, 32]) := h
  refine bL_most_244 (l_says 49 32 49 59 (by decide) (by decide) (by decide) (by decide) (by decide) (by decide +kernel) h (fun I L h => ?_))
  have h : Cl I (uT S [108, 105, 110, 107, 50, 32, 51, 32, 49, 32, 49, 59]) := h
  refine bL_most_256 (l_says 108 105 110 107 (by decide) (by decide) (by decide) (by decide) (by decide) (by decide +kernel) h (fun I L h => ?_))
  have h : Cl I (uT S [108, 105, 110, 107, 50, 32, 51, 32, 49, 32, 49, 59, 108, 105, 110, 107]) := h
  refine bL_most_268 (l_says 50 32 52 32 (by decide) (by decide) (by decide) (by decide) (by decide) (by decide +kernel) h (fun I L h => ?_))
  have h : Cl I (uT S [108, 105, 110, 107, 50, 32, 51, 32, 49, 32, 49, 59, 108, 105, 110, 107, 50, 32, 52, 32]) := h
  refine bL_most_280 (k_write 49 (by decide) (by decide) (by decide +kernel) h (fun I L h => ?_))
  have h : Cl I (uT S [108, 105, 110, 107, 50, 32, 51, 32, 49, 32, 49, 59, 108, 105, 110, 107, 50, 32, 52, 32, 49]) := h
  refine bL_most_286 (k_write 49 (by decide) (by decide) (by decide +kernel) h (fun I L h => ?_))
  have h : Cl I (uT S [108, 105, 110, 107, 50, 32, 51, 32, 49, 32, 49, 59, 108, 105, 110, 107, 50, 32, 52, 32, 49, 49]) := h
  refine bL_most_293 (k_fault (some 18) (by rw [h1]; decide +kernel) h (fun I L h => ?_))
  refine bL_most_298 (fun q => absurd q (by decide)) (fun _ => ?_)
  refine bL_most_303 (k_erase h (fun I L h => ?_))
  refine bL_most_307 (fun q => absurd q (by decide)) (fun _ => ?_)
  refine bL_most_312 ?_
  exact bL_most_317 (Or.inr rfl) (K I L h)
set_option maxHeartbeats 4000000 in
theorem l_most {S : q_S} {t : List Nat} {I : Nat → Nat → Int32} {L : Nat → Int64} {Q : Option Value → (Nat → Nat → Int32) → (Nat → Int64) → Prop} (h0 : S.1 = q_s0) (h : Cl I (uT S t)) (K : ∀ (I' : Nat → Nat → Int32) (L' : Nat → Int64) (S' : q_S), Cl I' (uT S' []) → Q (some (.int 1)) I' L') : XS mL_most 0 [(0, .ref 0)] [] I L Q := by
  refine bL_most_0 (k_erase h (fun I L h => ?_))
  refine bL_most_4 (l_says 110 111 100 101 (by decide) (by decide) (by decide) (by decide) (by decide) (by decide +kernel) h (fun I L h => ?_))
  have h : Cl I (uT S [110, 111, 100, 101]) := h
  refine bL_most_17 (l_says 115 56 32 32 (by decide) (by decide) (by decide) (by decide) (by decide) (by decide +kernel) h (fun I L h => ?_))
  have h : Cl I (uT S [110, 111, 100, 101, 115, 56, 32, 32]) := h
  refine bL_most_29 ?_
  refine bL_most_31 (fun q => absurd q (by decide)) (fun _ => ?_)
  refine bL_most_37 (l_says 59 108 105 110 (by decide) (by decide) (by decide) (by decide) (by decide) (by decide +kernel) h (fun I L h => ?_))
  have h : Cl I (uT S [110, 111, 100, 101, 115, 56, 32, 32, 59, 108, 105, 110]) := h
  refine bL_most_49 (fun q => absurd q (by decide)) (fun _ => ?_)
  refine bL_most_60 ?_
  refine bL_most_65 (fun q => absurd q (by decide)) (fun _ => ?_)
  refine bL_most_74 ?_
  refine bL_most_96 (l_says 107 48 32 49 (by decide) (by decide) (by decide) (by decide) (by decide) (by decide +kernel) h (fun I L h => ?_))
  have h : Cl I (uT S [110, 111, 100, 101, 115, 56, 32, 32, 59, 108, 105, 110, 107, 48, 32, 49]) := h
  refine bL_most_99 (fun q => absurd q (by decide)) (fun _ => ?_)
  refine bL_most_108 ?_
  refine bL_most_115 (l_says 32 49 32 50 (by decide) (by decide) (by decide) (by decide) (by decide) (by decide +kernel) h (fun I L h => ?_))
  have h : Cl I (uT S [110, 111, 100, 101, 115, 56, 32, 32, 59, 108, 105, 110, 107, 48, 32, 49, 32, 49, 32, 50]) := h
  refine bL_most_122 ?_
  refine bL_most_31 (fun q => absurd q (by decide)) (fun _ => ?_)
  refine bL_most_37 (l_says 59 108 105 110 (by decide) (by decide) (by decide) (by decide) (by decide) (by decide +kernel) h (fun I L h => ?_))
  have h : Cl I (uT S [110, 111, 100, 101, 115, 56, 32, 32, 59, 108, 105, 110, 107, 48, 32, 49, 32, 49, 32, 50, 59, 108, 105, 110]) := h
  refine bL_most_49 (fun q => absurd q (by decide)) (fun _ => ?_)
  refine bL_most_60 ?_
  refine bL_most_65 (fun q => absurd q (by decide)) (fun _ => ?_)
  refine bL_most_74 ?_
  refine bL_most_96 (l_says 107 48 32 50 (by decide) (by decide) (by decide) (by decide) (by decide) (by decide +kernel) h (fun I L h => ?_))
  have h : Cl I (uT S [110, 111, 100, 101, 115, 56, 32, 32, 59, 108, 105, 110, 107, 48, 32, 49, 32, 49, 32, 50, 59, 108, 105, 110, 107, 48, 32, 50]) := h
  refine bL_most_99 (fun q => absurd q (by decide)) (fun _ => ?_)
  refine bL_most_108 ?_
  refine bL_most_115 (l_says 32 49 32 50 (by decide) (by decide) (by decide) (by decide) (by decide) (by decide +kernel) h (fun I L h => ?_))
  have h : Cl I (uT S [110, 111, 100, 101, 115, 56, 32, 32, 59, 108, 105, 110, 107, 48, 32, 49, 32, 49, 32, 50, 59, 108, 105, 110, 107, 48, 32, 50, 32, 49, 32, 50]) := h
  refine bL_most_122 ?_
  refine bL_most_31 (fun q => absurd q (by decide)) (fun _ => ?_)
  refine bL_most_37 (l_says 59 108 105 110 (by decide) (by decide) (by decide) (by decide) (by decide) (by decide +kernel) h (fun I L h => ?_))
  have h : Cl I (uT S [110, 111, 100, 101, 115, 56, 32, 32, 59, 108, 105, 110, 107, 48, 32, 49, 32, 49, 32, 50, 59, 108, 105, 110, 107, 48, 32, 50, 32, 49, 32, 50, 59, 108, 105, 110]) := h
  refine bL_most_49 (fun q => absurd q (by decide)) (fun _ => ?_)
  refine bL_most_60 ?_
  refine bL_most_65 (fun q => absurd q (by decide)) (fun _ => ?_)
  refine bL_most_74 ?_
  refine bL_most_96 (l_says 107 48 32 51 (by decide) (by decide) (by decide) (by decide) (by decide) (by decide +kernel) h (fun I L h => ?_))
  have h : Cl I (uT S [110, 111, 100, 101, 115, 56, 32, 32, 59, 108, 105, 110, 107, 48, 32, 49, 32, 49, 32, 50, 59, 108, 105, 110, 107, 48, 32, 50, 32, 49, 32, 50, 59, 108, 105, 110, 107, 48, 32, 51]) := h
  refine bL_most_99 (fun q => absurd q (by decide)) (fun _ => ?_)
  refine bL_most_108 ?_
  refine bL_most_115 (l_says 32 49 32 50 (by decide) (by decide) (by decide) (by decide) (by decide) (by decide +kernel) h (fun I L h => ?_))
  have h : Cl I (uT S [110, 111, 100, 101, 115, 56, 32, 32, 59, 108, 105, 110, 107, 48, 32, 49, 32, 49, 32, 50, 59, 108, 105, 110, 107, 48, 32, 50, 32, 49, 32, 50, 59, 108, 105, 110, 107, 48, 32, 51, 32, 49, 32, 50]) := h
  refine bL_most_122 ?_
  refine bL_most_31 (fun q => absurd q (by decide)) (fun _ => ?_)
  refine bL_most_37 (l_says 59 108 105 110 (by decide) (by decide) (by decide) (by decide) (by decide) (by decide +kernel) h (fun I L h => ?_))
  have h : Cl I (uT S [110, 111, 100, 101, 115, 56, 32, 32, 59, 108, 105, 110, 107, 48, 32, 49, 32, 49, 32, 50, 59, 108, 105, 110, 107, 48, 32, 50, 32, 49, 32, 50, 59, 108, 105, 110, 107, 48, 32, 51, 32, 49, 32, 50, 59, 108, 105, 110]) := h
  refine bL_most_49 (fun q => absurd q (by decide)) (fun _ => ?_)
  refine bL_most_60 ?_
  refine bL_most_65 (fun q => absurd q (by decide)) (fun _ => ?_)
  refine bL_most_74 ?_
  refine bL_most_96 (l_says 107 48 32 52 (by decide) (by decide) (by decide) (by decide) (by decide) (by decide +kernel) h (fun I L h => ?_))
  have h : Cl I (uT S [110, 111, 100, 101, 115, 56, 32, 32, 59, 108, 105, 110, 107, 48, 32, 49, 32, 49, 32, 50, 59, 108, 105, 110, 107, 48, 32, 50, 32, 49, 32, 50, 59, 108, 105, 110, 107, 48, 32, 51, 32, 49, 32, 50, 59, 108, 105, 110, 107, 48, 32, 52]) := h
  refine bL_most_99 (fun q => absurd q (by decide)) (fun _ => ?_)
  refine bL_most_108 ?_
  refine bL_most_115 (l_says 32 49 32 50 (by decide) (by decide) (by decide) (by decide) (by decide) (by decide +kernel) h (fun I L h => ?_))
  have h : Cl I (uT S [110, 111, 100, 101, 115, 56, 32, 32, 59, 108, 105, 110, 107, 48, 32, 49, 32, 49, 32, 50, 59, 108, 105, 110, 107, 48, 32, 50, 32, 49, 32, 50, 59, 108, 105, 110, 107, 48, 32, 51, 32, 49, 32, 50, 59, 108, 105, 110, 107, 48, 32, 52, 32, 49, 32, 50]) := h
  refine bL_most_122 ?_
  refine bL_most_31 (fun q => absurd q (by decide)) (fun _ => ?_)
  refine bL_most_37 (l_says 59 108 105 110 (by decide) (by decide) (by decide) (by decide) (by decide) (by decide +kernel) h (fun I L h => ?_))
  have h : Cl I (uT S [110, 111, 100, 101, 115, 56, 32, 32, 59, 108, 105, 110, 107, 48, 32, 49, 32, 49, 32, 50, 59, 108, 105, 110, 107, 48, 32, 50, 32, 49, 32, 50, 59, 108, 105, 110, 107, 48, 32, 51, 32, 49, 32, 50, 59, 108, 105, 110, 107, 48, 32, 52, 32, 49, 32, 50, 59, 108, 105, 110]) := h
  refine bL_most_49 (fun q => absurd q (by decide)) (fun _ => ?_)
  refine bL_most_60 ?_
  refine bL_most_65 (fun q => absurd q (by decide)) (fun _ => ?_)
  refine bL_most_74 ?_
  refine bL_most_96 (l_says 107 48 32 53 (by decide) (by decide) (by decide) (by decide) (by decide) (by decide +kernel) h (fun I L h => ?_))
  have h : Cl I (uT S [110, 111, 100, 101, 115, 56, 32, 32, 59, 108, 105, 110, 107, 48, 32, 49, 32, 49, 32, 50, 59, 108, 105, 110, 107, 48, 32, 50, 32, 49, 32, 50, 59, 108, 105, 110, 107, 48, 32, 51, 32, 49, 32, 50, 59, 108, 105, 110, 107, 48, 32, 52, 32, 49, 32, 50, 59, 108, 105, 110, 107, 48, 32, 53]) := h
  refine bL_most_99 (fun q => absurd q (by decide)) (fun _ => ?_)
  refine bL_most_108 ?_
  refine bL_most_115 (l_says 32 49 32 50 (by decide) (by decide) (by decide) (by decide) (by decide) (by decide +kernel) h (fun I L h => ?_))
  have h : Cl I (uT S [110, 111, 100, 101, 115, 56, 32, 32, 59, 108, 105, 110, 107, 48, 32, 49, 32, 49, 32, 50, 59, 108, 105, 110, 107, 48, 32, 50, 32, 49, 32, 50, 59, 108, 105, 110, 107, 48, 32, 51, 32, 49, 32, 50, 59, 108, 105, 110, 107, 48, 32, 52, 32, 49, 32, 50, 59, 108, 105, 110, 107, 48, 32, 53, 32, 49, 32, 50]) := h
  refine bL_most_122 ?_
  refine bL_most_31 (fun q => absurd q (by decide)) (fun _ => ?_)
  refine bL_most_37 (l_says 59 108 105 110 (by decide) (by decide) (by decide) (by decide) (by decide) (by decide +kernel) h (fun I L h => ?_))
  have h : Cl I (uT S [110, 111, 100, 101, 115, 56, 32, 32, 59, 108, 105, 110, 107, 48, 32, 49, 32, 49, 32, 50, 59, 108, 105, 110, 107, 48, 32, 50, 32, 49, 32, 50, 59, 108, 105, 110, 107, 48, 32, 51, 32, 49, 32, 50, 59, 108, 105, 110, 107, 48, 32, 52, 32, 49, 32, 50, 59, 108, 105, 110, 107, 48, 32, 53, 32, 49, 32, 50, 59, 108, 105, 110]) := h
  refine bL_most_49 (fun q => absurd q (by decide)) (fun _ => ?_)
  refine bL_most_60 ?_
  refine bL_most_65 (fun q => absurd q (by decide)) (fun _ => ?_)
  refine bL_most_74 ?_
  refine bL_most_96 (l_says 107 48 32 54 (by decide) (by decide) (by decide) (by decide) (by decide) (by decide +kernel) h (fun I L h => ?_))
  have h : Cl I (uT S [110, 111, 100, 101, 115, 56, 32, 32, 59, 108, 105, 110, 107, 48, 32, 49, 32, 49, 32, 50, 59, 108, 105, 110, 107, 48, 32, 50, 32, 49, 32, 50, 59, 108, 105, 110, 107, 48, 32, 51, 32, 49, 32, 50, 59, 108, 105, 110, 107, 48, 32, 52, 32, 49, 32, 50, 59, 108, 105, 110, 107, 48, 32, 53, 32, 49, 32, 50, 59, 108, 105, 110, 107, 48, 32, 54]) := h
  refine bL_most_99 (fun q => absurd q (by decide)) (fun _ => ?_)
  refine bL_most_108 ?_
  refine bL_most_115 (l_says 32 49 32 50 (by decide) (by decide) (by decide) (by decide) (by decide) (by decide +kernel) h (fun I L h => ?_))
  have h : Cl I (uT S [110, 111, 100, 101, 115, 56, 32, 32, 59, 108, 105, 110, 107, 48, 32, 49, 32, 49, 32, 50, 59, 108, 105, 110, 107, 48, 32, 50, 32, 49, 32, 50, 59, 108, 105, 110, 107, 48, 32, 51, 32, 49, 32, 50, 59, 108, 105, 110, 107, 48, 32, 52, 32, 49, 32, 50, 59, 108, 105, 110, 107, 48, 32, 53, 32, 49, 32, 50, 59, 108, 105, 110, 107, 48, 32, 54, 32, 49, 32, 50]) := h
  refine bL_most_122 ?_
  refine bL_most_31 (fun q => absurd q (by decide)) (fun _ => ?_)
  refine bL_most_37 (l_says 59 108 105 110 (by decide) (by decide) (by decide) (by decide) (by decide) (by decide +kernel) h (fun I L h => ?_))
  have h : Cl I (uT S [110, 111, 100, 101, 115, 56, 32, 32, 59, 108, 105, 110, 107, 48, 32, 49, 32, 49, 32, 50, 59, 108, 105, 110, 107, 48, 32, 50, 32, 49, 32, 50, 59, 108, 105, 110, 107, 48, 32, 51, 32, 49, 32, 50, 59, 108, 105, 110, 107, 48, 32, 52, 32, 49, 32, 50, 59, 108, 105, 110, 107, 48, 32, 53, 32, 49, 32, 50, 59, 108, 105, 110, 107, 48, 32, 54, 32, 49, 32, 50, 59, 108, 105, 110]) := h
  refine bL_most_49 (fun q => absurd q (by decide)) (fun _ => ?_)
  refine bL_most_60 ?_
  refine bL_most_65 (fun q => absurd q (by decide)) (fun _ => ?_)
  refine bL_most_74 ?_
  refine bL_most_96 (l_says 107 48 32 55 (by decide) (by decide) (by decide) (by decide) (by decide) (by decide +kernel) h (fun I L h => ?_))
  have h : Cl I (uT S [110, 111, 100, 101, 115, 56, 32, 32, 59, 108, 105, 110, 107, 48, 32, 49, 32, 49, 32, 50, 59, 108, 105, 110, 107, 48, 32, 50, 32, 49, 32, 50, 59, 108, 105, 110, 107, 48, 32, 51, 32, 49, 32, 50, 59, 108, 105, 110, 107, 48, 32, 52, 32, 49, 32, 50, 59, 108, 105, 110, 107, 48, 32, 53, 32, 49, 32, 50, 59, 108, 105, 110, 107, 48, 32, 54, 32, 49, 32, 50, 59, 108, 105, 110, 107, 48, 32, 55]) := h
  refine bL_most_99 (fun q => absurd q (by decide)) (fun _ => ?_)
  refine bL_most_108 ?_
  refine bL_most_115 (l_says 32 49 32 50 (by decide) (by decide) (by decide) (by decide) (by decide) (by decide +kernel) h (fun I L h => ?_))
  have h : Cl I (uT S [110, 111, 100, 101, 115, 56, 32, 32, 59, 108, 105, 110, 107, 48, 32, 49, 32, 49, 32, 50, 59, 108, 105, 110, 107, 48, 32, 50, 32, 49, 32, 50, 59, 108, 105, 110, 107, 48, 32, 51, 32, 49, 32, 50, 59, 108, 105, 110, 107, 48, 32, 52, 32, 49, 32, 50, 59, 108, 105, 110, 107, 48, 32, 53, 32, 49, 32, 50, 59, 108, 105, 110, 107, 48, 32, 54, 32, 49, 32, 50, 59, 108, 105, 110, 107, 48, 32, 55, 32, 49, 32, 50]) := h
  refine bL_most_122 ?_
  refine bL_most_31 (fun q => absurd q (by decide)) (fun _ => ?_)
  refine bL_most_37 (l_says 59 108 105 110 (by decide) (by decide) (by decide) (by decide) (by decide) (by decide +kernel) h (fun I L h => ?_))
  have h : Cl I (uT S [110, 111, 100, 101, 115, 56, 32, 32, 59, 108, 105, 110, 107, 48, 32, 49, 32, 49, 32, 50, 59, 108, 105, 110, 107, 48, 32, 50, 32, 49, 32, 50, 59, 108, 105, 110, 107, 48, 32, 51, 32, 49, 32, 50, 59, 108, 105, 110, 107, 48, 32, 52, 32, 49, 32, 50, 59, 108, 105, 110, 107, 48, 32, 53, 32, 49, 32, 50, 59, 108, 105, 110, 107, 48, 32, 54, 32, 49, 32, 50, 59, 108, 105, 110, 107, 48, 32, 55, 32, 49, 32, 50, 59, 108, 105, 110]) := h
  refine bL_most_49 (fun _ => ?_) (fun q => absurd q (by decide))
  refine bL_most_64 ?_
  refine bL_most_65 (fun _ => ?_) (fun q => absurd q (by decide))
  refine bL_most_81 (fun q => absurd q (by decide)) (fun _ => ?_)
  refine bL_most_87 ?_
  refine bL_most_96 (l_says 107 49 32 50 (by decide) (by decide) (by decide) (by decide) (by decide) (by decide +kernel) h (fun I L h => ?_))
  have h : Cl I (uT S [110, 111, 100, 101, 115, 56, 32, 32, 59, 108, 105, 110, 107, 48, 32, 49, 32, 49, 32, 50, 59, 108, 105, 110, 107, 48, 32, 50, 32, 49, 32, 50, 59, 108, 105, 110, 107, 48, 32, 51, 32, 49, 32, 50, 59, 108, 105, 110, 107, 48, 32, 52, 32, 49, 32, 50, 59, 108, 105, 110, 107, 48, 32, 53, 32, 49, 32, 50, 59, 108, 105, 110, 107, 48, 32, 54, 32, 49, 32, 50, 59, 108, 105, 110, 107, 48, 32, 55, 32, 49, 32, 50, 59, 108, 105, 110, 107, 49, 32, 50]) := h
  refine bL_most_99 (fun q => absurd q (by decide)) (fun _ => ?_)
  refine bL_most_108 ?_
  refine bL_most_115 (l_says 32 49 32 50 (by decide) (by decide) (by decide) (by decide) (by decide) (by decide +kernel) h (fun I L h => ?_))
  have h : Cl I (uT S [110, 111, 100, 101, 115, 56, 32, 32, 59, 108, 105, 110, 107, 48, 32, 49, 32, 49, 32, 50, 59, 108, 105, 110, 107, 48, 32, 50, 32, 49, 32, 50, 59, 108, 105, 110, 107, 48, 32, 51, 32, 49, 32, 50, 59, 108, 105, 110, 107, 48, 32, 52, 32, 49, 32, 50, 59, 108, 105, 110, 107, 48, 32, 53, 32, 49, 32, 50, 59, 108, 105, 110, 107, 48, 32, 54, 32, 49, 32, 50, 59, 108, 105, 110, 107, 48, 32, 55, 32, 49, 32, 50, 59, 108, 105, 110, 107, 49, 32, 50, 32, 49, 32, 50]) := h
  refine bL_most_122 ?_
  refine bL_most_31 (fun q => absurd q (by decide)) (fun _ => ?_)
  refine bL_most_37 (l_says 59 108 105 110 (by decide) (by decide) (by decide) (by decide) (by decide) (by decide +kernel) h (fun I L h => ?_))
  have h : Cl I (uT S [110, 111, 100, 101, 115, 56, 32, 32, 59, 108, 105, 110, 107, 48, 32, 49, 32, 49, 32, 50, 59, 108, 105, 110, 107, 48, 32, 50, 32, 49, 32, 50, 59, 108, 105, 110, 107, 48, 32, 51, 32, 49, 32, 50, 59, 108, 105, 110, 107, 48, 32, 52, 32, 49, 32, 50, 59, 108, 105, 110, 107, 48, 32, 53, 32, 49, 32, 50, 59, 108, 105, 110, 107, 48, 32, 54, 32, 49, 32, 50, 59, 108, 105, 110, 107, 48, 32, 55, 32, 49, 32, 50, 59, 108, 105, 110, 107, 49, 32, 50, 32, 49, 32, 50, 59, 108, 105, 110]) := h
  refine bL_most_49 (fun _ => ?_) (fun q => absurd q (by decide))
  refine bL_most_64 ?_
  refine bL_most_65 (fun _ => ?_) (fun q => absurd q (by decide))
  refine bL_most_81 (fun q => absurd q (by decide)) (fun _ => ?_)
  refine bL_most_87 ?_
  refine bL_most_96 (l_says 107 49 32 51 (by decide) (by decide) (by decide) (by decide) (by decide) (by decide +kernel) h (fun I L h => ?_))
  have h : Cl I (uT S [110, 111, 100, 101, 115, 56, 32, 32, 59, 108, 105, 110, 107, 48, 32, 49, 32, 49, 32, 50, 59, 108, 105, 110, 107, 48, 32, 50, 32, 49, 32, 50, 59, 108, 105, 110, 107, 48, 32, 51, 32, 49, 32, 50, 59, 108, 105, 110, 107, 48, 32, 52, 32, 49, 32, 50, 59, 108, 105, 110, 107, 48, 32, 53, 32, 49, 32, 50, 59, 108, 105, 110, 107, 48, 32, 54, 32, 49, 32, 50, 59, 108, 105, 110, 107, 48, 32, 55, 32, 49, 32, 50, 59, 108, 105, 110, 107, 49, 32, 50, 32, 49, 32, 50, 59, 108, 105, 110, 107, 49, 32, 51]) := h
  refine bL_most_99 (fun q => absurd q (by decide)) (fun _ => ?_)
  refine bL_most_108 ?_
  refine bL_most_115 (l_says 32 49 32 50 (by decide) (by decide) (by decide) (by decide) (by decide) (by decide +kernel) h (fun I L h => ?_))
  have h : Cl I (uT S [110, 111, 100, 101, 115, 56, 32, 32, 59, 108, 105, 110, 107, 48, 32, 49, 32, 49, 32, 50, 59, 108, 105, 110, 107, 48, 32, 50, 32, 49, 32, 50, 59, 108, 105, 110, 107, 48, 32, 51, 32, 49, 32, 50, 59, 108, 105, 110, 107, 48, 32, 52, 32, 49, 32, 50, 59, 108, 105, 110, 107, 48, 32, 53, 32, 49, 32, 50, 59, 108, 105, 110, 107, 48, 32, 54, 32, 49, 32, 50, 59, 108, 105, 110, 107, 48, 32, 55, 32, 49, 32, 50, 59, 108, 105, 110, 107, 49, 32, 50, 32, 49, 32, 50, 59, 108, 105, 110, 107, 49, 32, 51, 32, 49, 32, 50]) := h
  refine bL_most_122 ?_
  refine bL_most_31 (fun q => absurd q (by decide)) (fun _ => ?_)
  refine bL_most_37 (l_says 59 108 105 110 (by decide) (by decide) (by decide) (by decide) (by decide) (by decide +kernel) h (fun I L h => ?_))
  have h : Cl I (uT S [110, 111, 100, 101, 115, 56, 32, 32, 59, 108, 105, 110, 107, 48, 32, 49, 32, 49, 32, 50, 59, 108, 105, 110, 107, 48, 32, 50, 32, 49, 32, 50, 59, 108, 105, 110, 107, 48, 32, 51, 32, 49, 32, 50, 59, 108, 105, 110, 107, 48, 32, 52, 32, 49, 32, 50, 59, 108, 105, 110, 107, 48, 32, 53, 32, 49, 32, 50, 59, 108, 105, 110, 107, 48, 32, 54, 32, 49, 32, 50, 59, 108, 105, 110, 107, 48, 32, 55, 32, 49, 32, 50, 59, 108, 105, 110, 107, 49, 32, 50, 32, 49, 32, 50, 59, 108, 105, 110, 107, 49, 32, 51, 32, 49, 32, 50, 59, 108, 105, 110]) := h
  refine bL_most_49 (fun _ => ?_) (fun q => absurd q (by decide))
  refine bL_most_64 ?_
  refine bL_most_65 (fun _ => ?_) (fun q => absurd q (by decide))
  refine bL_most_81 (fun q => absurd q (by decide)) (fun _ => ?_)
  refine bL_most_87 ?_
  refine bL_most_96 (l_says 107 49 32 52 (by decide) (by decide) (by decide) (by decide) (by decide) (by decide +kernel) h (fun I L h => ?_))
  have h : Cl I (uT S [110, 111, 100, 101, 115, 56, 32, 32, 59, 108, 105, 110, 107, 48, 32, 49, 32, 49, 32, 50, 59, 108, 105, 110, 107, 48, 32, 50, 32, 49, 32, 50, 59, 108, 105, 110, 107, 48, 32, 51, 32, 49, 32, 50, 59, 108, 105, 110, 107, 48, 32, 52, 32, 49, 32, 50, 59, 108, 105, 110, 107, 48, 32, 53, 32, 49, 32, 50, 59, 108, 105, 110, 107, 48, 32, 54, 32, 49, 32, 50, 59, 108, 105, 110, 107, 48, 32, 55, 32, 49, 32, 50, 59, 108, 105, 110, 107, 49, 32, 50, 32, 49, 32, 50, 59, 108, 105, 110, 107, 49, 32, 51, 32, 49, 32, 50, 59, 108, 105, 110, 107, 49, 32, 52]) := h
  refine bL_most_99 (fun q => absurd q (by decide)) (fun _ => ?_)
  refine bL_most_108 ?_
  refine bL_most_115 (l_says 32 49 32 50 (by decide) (by decide) (by decide) (by decide) (by decide) (by decide +kernel) h (fun I L h => ?_))
  have h : Cl I (uT S [110, 111, 100, 101, 115, 56, 32, 32, 59, 108, 105, 110, 107, 48, 32, 49, 32, 49, 32, 50, 59, 108, 105, 110, 107, 48, 32, 50, 32, 49, 32, 50, 59, 108, 105, 110, 107, 48, 32, 51, 32, 49, 32, 50, 59, 108, 105, 110, 107, 48, 32, 52, 32, 49, 32, 50, 59, 108, 105, 110, 107, 48, 32, 53, 32, 49, 32, 50, 59, 108, 105, 110, 107, 48, 32, 54, 32, 49, 32, 50, 59, 108, 105, 110, 107, 48, 32, 55, 32, 49, 32, 50, 59, 108, 105, 110, 107, 49, 32, 50, 32, 49, 32, 50, 59, 108, 105, 110, 107, 49, 32, 51, 32, 49, 32, 50, 59, 108, 105, 110, 107, 49, 32, 52, 32, 49, 32, 50]) := h
  refine bL_most_122 ?_
  refine bL_most_31 (fun q => absurd q (by decide)) (fun _ => ?_)
  refine bL_most_37 (l_says 59 108 105 110 (by decide) (by decide) (by decide) (by decide) (by decide) (by decide +kernel) h (fun I L h => ?_))
  have h : Cl I (uT S [110, 111, 100, 101, 115, 56, 32, 32, 59, 108, 105, 110, 107, 48, 32, 49, 32, 49, 32, 50, 59, 108, 105, 110, 107, 48, 32, 50, 32, 49, 32, 50, 59, 108, 105, 110, 107, 48, 32, 51, 32, 49, 32, 50, 59, 108, 105, 110, 107, 48, 32, 52, 32, 49, 32, 50, 59, 108, 105, 110, 107, 48, 32, 53, 32, 49, 32, 50, 59, 108, 105, 110, 107, 48, 32, 54, 32, 49, 32, 50, 59, 108, 105, 110, 107, 48, 32, 55, 32, 49, 32, 50, 59, 108, 105, 110, 107, 49, 32, 50, 32, 49, 32, 50, 59, 108, 105, 110, 107, 49, 32, 51, 32, 49, 32, 50, 59, 108, 105, 110, 107, 49, 32, 52, 32, 49, 32, 50, 59, 108, 105, 110]) := h
  refine bL_most_49 (fun _ => ?_) (fun q => absurd q (by decide))
  refine bL_most_64 ?_
  refine bL_most_65 (fun _ => ?_) (fun q => absurd q (by decide))
  refine bL_most_81 (fun q => absurd q (by decide)) (fun _ => ?_)
  refine bL_most_87 ?_
  refine bL_most_96 (l_says 107 49 32 53 (by decide) (by decide) (by decide) (by decide) (by decide) (by decide +kernel) h (fun I L h => ?_))
  have h : Cl I (uT S [110, 111, 100, 101, 115, 56, 32, 32, 59, 108, 105, 110, 107, 48, 32, 49, 32, 49, 32, 50, 59, 108, 105, 110, 107, 48, 32, 50, 32, 49, 32, 50, 59, 108, 105, 110, 107, 48, 32, 51, 32, 49, 32, 50, 59, 108, 105, 110, 107, 48, 32, 52, 32, 49, 32, 50, 59, 108, 105, 110, 107, 48, 32, 53, 32, 49, 32, 50, 59, 108, 105, 110, 107, 48, 32, 54, 32, 49, 32, 50, 59, 108, 105, 110, 107, 48, 32, 55, 32, 49, 32, 50, 59, 108, 105, 110, 107, 49, 32, 50, 32, 49, 32, 50, 59, 108, 105, 110, 107, 49, 32, 51, 32, 49, 32, 50, 59, 108, 105, 110, 107, 49, 32, 52, 32, 49, 32, 50, 59, 108, 105, 110, 107, 49, 32, 53]) := h
  refine bL_most_99 (fun q => absurd q (by decide)) (fun _ => ?_)
  refine bL_most_108 ?_
  refine bL_most_115 (l_says 32 49 32 50 (by decide) (by decide) (by decide) (by decide) (by decide) (by decide +kernel) h (fun I L h => ?_))
  have h : Cl I (uT S [110, 111, 100, 101, 115, 56, 32, 32, 59, 108, 105, 110, 107, 48, 32, 49, 32, 49, 32, 50, 59, 108, 105, 110, 107, 48, 32, 50, 32, 49, 32, 50, 59, 108, 105, 110, 107, 48, 32, 51, 32, 49, 32, 50, 59, 108, 105, 110, 107, 48, 32, 52, 32, 49, 32, 50, 59, 108, 105, 110, 107, 48, 32, 53, 32, 49, 32, 50, 59, 108, 105, 110, 107, 48, 32, 54, 32, 49, 32, 50, 59, 108, 105, 110, 107, 48, 32, 55, 32, 49, 32, 50, 59, 108, 105, 110, 107, 49, 32, 50, 32, 49, 32, 50, 59, 108, 105, 110, 107, 49, 32, 51, 32, 49, 32, 50, 59, 108, 105, 110, 107, 49, 32, 52, 32, 49, 32, 50, 59, 108, 105, 110, 107, 49, 32, 53, 32, 49, 32, 50]) := h
  refine bL_most_122 ?_
  refine bL_most_31 (fun q => absurd q (by decide)) (fun _ => ?_)
  refine bL_most_37 (l_says 59 108 105 110 (by decide) (by decide) (by decide) (by decide) (by decide) (by decide +kernel) h (fun I L h => ?_))
  have h : Cl I (uT S [110, 111, 100, 101, 115, 56, 32, 32, 59, 108, 105, 110, 107, 48, 32, 49, 32, 49, 32, 50, 59, 108, 105, 110, 107, 48, 32, 50, 32, 49, 32, 50, 59, 108, 105, 110, 107, 48, 32, 51, 32, 49, 32, 50, 59, 108, 105, 110, 107, 48, 32, 52, 32, 49, 32, 50, 59, 108, 105, 110, 107, 48, 32, 53, 32, 49, 32, 50, 59, 108, 105, 110, 107, 48, 32, 54, 32, 49, 32, 50, 59, 108, 105, 110, 107, 48, 32, 55, 32, 49, 32, 50, 59, 108, 105, 110, 107, 49, 32, 50, 32, 49, 32, 50, 59, 108, 105, 110, 107, 49, 32, 51, 32, 49, 32, 50, 59, 108, 105, 110, 107, 49, 32, 52, 32, 49, 32, 50, 59, 108, 105, 110, 107, 49, 32, 53, 32, 49, 32, 50, 59, 108, 105, 110]) := h
  refine bL_most_49 (fun _ => ?_) (fun q => absurd q (by decide))
  refine bL_most_64 ?_
  refine bL_most_65 (fun _ => ?_) (fun q => absurd q (by decide))
  refine bL_most_81 (fun q => absurd q (by decide)) (fun _ => ?_)
  refine bL_most_87 ?_
  refine bL_most_96 (l_says 107 49 32 54 (by decide) (by decide) (by decide) (by decide) (by decide) (by decide +kernel) h (fun I L h => ?_))
  have h : Cl I (uT S [110, 111, 100, 101, 115, 56, 32, 32, 59, 108, 105, 110, 107, 48, 32, 49, 32, 49, 32, 50, 59, 108, 105, 110, 107, 48, 32, 50, 32, 49, 32, 50, 59, 108, 105, 110, 107, 48, 32, 51, 32, 49, 32, 50, 59, 108, 105, 110, 107, 48, 32, 52, 32, 49, 32, 50, 59, 108, 105, 110, 107, 48, 32, 53, 32, 49, 32, 50, 59, 108, 105, 110, 107, 48, 32, 54, 32, 49, 32, 50, 59, 108, 105, 110, 107, 48, 32, 55, 32, 49, 32, 50, 59, 108, 105, 110, 107, 49, 32, 50, 32, 49, 32, 50, 59, 108, 105, 110, 107, 49, 32, 51, 32, 49, 32, 50, 59, 108, 105, 110, 107, 49, 32, 52, 32, 49, 32, 50, 59, 108, 105, 110, 107, 49, 32, 53, 32, 49, 32, 50, 59, 108, 105, 110, 107, 49, 32, 54]) := h
  refine bL_most_99 (fun q => absurd q (by decide)) (fun _ => ?_)
  refine bL_most_108 ?_
  refine bL_most_115 (l_says 32 49 32 50 (by decide) (by decide) (by decide) (by decide) (by decide) (by decide +kernel) h (fun I L h => ?_))
  have h : Cl I (uT S [110, 111, 100, 101, 115, 56, 32, 32, 59, 108, 105, 110, 107, 48, 32, 49, 32, 49, 32, 50, 59, 108, 105, 110, 107, 48, 32, 50, 32, 49, 32, 50, 59, 108, 105, 110, 107, 48, 32, 51, 32, 49, 32, 50, 59, 108, 105, 110, 107, 48, 32, 52, 32, 49, 32, 50, 59, 108, 105, 110, 107, 48, 32, 53, 32, 49, 32, 50, 59, 108, 105, 110, 107, 48, 32, 54, 32, 49, 32, 50, 59, 108, 105, 110, 107, 48, 32, 55, 32, 49, 32, 50, 59, 108, 105, 110, 107, 49, 32, 50, 32, 49, 32, 50, 59, 108, 105, 110, 107, 49, 32, 51, 32, 49, 32, 50, 59, 108, 105, 110, 107, 49, 32, 52, 32, 49, 32, 50, 59, 108, 105, 110, 107, 49, 32, 53, 32, 49, 32, 50, 59, 108, 105, 110, 107, 49, 32, 54, 32, 49, 32, 50]) := h
  refine bL_most_122 ?_
  refine bL_most_31 (fun q => absurd q (by decide)) (fun _ => ?_)
  refine bL_most_37 (l_says 59 108 105 110 (by decide) (by decide) (by decide) (by decide) (by decide) (by decide +kernel) h (fun I L h => ?_))
  have h : Cl I (uT S [110, 111, 100, 101, 115, 56, 32, 32, 59, 108, 105, 110, 107, 48, 32, 49, 32, 49, 32, 50, 59, 108, 105, 110, 107, 48, 32, 50, 32, 49, 32, 50, 59, 108, 105, 110, 107, 48, 32, 51, 32, 49, 32, 50, 59, 108, 105, 110, 107, 48, 32, 52, 32, 49, 32, 50, 59, 108, 105, 110, 107, 48, 32, 53, 32, 49, 32, 50, 59, 108, 105, 110, 107, 48, 32, 54, 32, 49, 32, 50, 59, 108, 105, 110, 107, 48, 32, 55, 32, 49, 32, 50, 59, 108, 105, 110, 107, 49, 32, 50, 32, 49, 32, 50, 59, 108, 105, 110, 107, 49, 32, 51, 32, 49, 32, 50, 59, 108, 105, 110, 107, 49, 32, 52, 32, 49, 32, 50, 59, 108, 105, 110, 107, 49, 32, 53, 32, 49, 32, 50, 59, 108, 105, 110, 107, 49, 32, 54, 32, 49, 32, 50, 59, 108, 105, 110]) := h
  refine bL_most_49 (fun _ => ?_) (fun q => absurd q (by decide))
  refine bL_most_64 ?_
  refine bL_most_65 (fun _ => ?_) (fun q => absurd q (by decide))
  refine bL_most_81 (fun q => absurd q (by decide)) (fun _ => ?_)
  refine bL_most_87 ?_
  refine bL_most_96 (l_says 107 49 32 55 (by decide) (by decide) (by decide) (by decide) (by decide) (by decide +kernel) h (fun I L h => ?_))
  have h : Cl I (uT S [110, 111, 100, 101, 115, 56, 32, 32, 59, 108, 105, 110, 107, 48, 32, 49, 32, 49, 32, 50, 59, 108, 105, 110, 107, 48, 32, 50, 32, 49, 32, 50, 59, 108, 105, 110, 107, 48, 32, 51, 32, 49, 32, 50, 59, 108, 105, 110, 107, 48, 32, 52, 32, 49, 32, 50, 59, 108, 105, 110, 107, 48, 32, 53, 32, 49, 32, 50, 59, 108, 105, 110, 107, 48, 32, 54, 32, 49, 32, 50, 59, 108, 105, 110, 107, 48, 32, 55, 32, 49, 32, 50, 59, 108, 105, 110, 107, 49, 32, 50, 32, 49, 32, 50, 59, 108, 105, 110, 107, 49, 32, 51, 32, 49, 32, 50, 59, 108, 105, 110, 107, 49, 32, 52, 32, 49, 32, 50, 59, 108, 105, 110, 107, 49, 32, 53, 32, 49, 32, 50, 59, 108, 105, 110, 107, 49, 32, 54, 32, 49, 32, 50, 59, 108, 105, 110, 107, 49, 32, 55]) := h
  refine bL_most_99 (fun q => absurd q (by decide)) (fun _ => ?_)
  refine bL_most_108 ?_
  refine bL_most_115 (l_says 32 49 32 50 (by decide) (by decide) (by decide) (by decide) (by decide) (by decide +kernel) h (fun I L h => ?_))
  have h : Cl I (uT S [110, 111, 100, 101, 115, 56, 32, 32, 59, 108, 105, 110, 107, 48, 32, 49, 32, 49, 32, 50, 59, 108, 105, 110, 107, 48, 32, 50, 32, 49, 32, 50, 59, 108, 105, 110, 107, 48, 32, 51, 32, 49, 32, 50, 59, 108, 105, 110, 107, 48, 32, 52, 32, 49, 32, 50, 59, 108, 105, 110, 107, 48, 32, 53, 32, 49, 32, 50, 59, 108, 105, 110, 107, 48, 32, 54, 32, 49, 32, 50, 59, 108, 105, 110, 107, 48, 32, 55, 32, 49, 32, 50, 59, 108, 105, 110, 107, 49, 32, 50, 32, 49, 32, 50, 59, 108, 105, 110, 107, 49, 32, 51, 32, 49, 32, 50, 59, 108, 105, 110, 107, 49, 32, 52, 32, 49, 32, 50, 59, 108, 105, 110, 107, 49, 32, 53, 32, 49, 32, 50, 59, 108, 105, 110, 107, 49, 32, 54, 32, 49, 32, 50, 59, 108, 105, 110, 107, 49, 32, 55, 32, 49, 32, 50]) := h
  refine bL_most_122 ?_
  refine bL_most_31 (fun q => absurd q (by decide)) (fun _ => ?_)
  refine bL_most_37 (l_says 59 108 105 110 (by decide) (by decide) (by decide) (by decide) (by decide) (by decide +kernel) h (fun I L h => ?_))
  have h : Cl I (uT S [110, 111, 100, 101, 115, 56, 32, 32, 59, 108, 105, 110, 107, 48, 32, 49, 32, 49, 32, 50, 59, 108, 105, 110, 107, 48, 32, 50, 32, 49, 32, 50, 59, 108, 105, 110, 107, 48, 32, 51, 32, 49, 32, 50, 59, 108, 105, 110, 107, 48, 32, 52, 32, 49, 32, 50, 59, 108, 105, 110, 107, 48, 32, 53, 32, 49, 32, 50, 59, 108, 105, 110, 107, 48, 32, 54, 32, 49, 32, 50, 59, 108, 105, 110, 107, 48, 32, 55, 32, 49, 32, 50, 59, 108, 105, 110, 107, 49, 32, 50, 32, 49, 32, 50, 59, 108, 105, 110, 107, 49, 32, 51, 32, 49, 32, 50, 59, 108, 105, 110, 107, 49, 32, 52, 32, 49, 32, 50, 59, 108, 105, 110, 107, 49, 32, 53, 32, 49, 32, 50, 59, 108, 105, 110, 107, 49, 32, 54, 32, 49, 32, 50, 59, 108, 105, 110, 107, 49, 32, 55, 32, 49, 32, 50, 59, 108, 105, 110]) := h
  refine bL_most_49 (fun _ => ?_) (fun q => absurd q (by decide))
  refine bL_most_64 ?_
  refine bL_most_65 (fun _ => ?_) (fun q => absurd q (by decide))
  refine bL_most_81 (fun _ => ?_) (fun q => absurd q (by decide))
  refine bL_most_94 ?_
  refine bL_most_96 (l_says 107 49 32 48 (by decide) (by decide) (by decide) (by decide) (by decide) (by decide +kernel) h (fun I L h => ?_))
  have h : Cl I (uT S [110, 111, 100, 101, 115, 56, 32, 32, 59, 108, 105, 110, 107, 48, 32, 49, 32, 49, 32, 50, 59, 108, 105, 110, 107, 48, 32, 50, 32, 49, 32, 50, 59, 108, 105, 110, 107, 48, 32, 51, 32, 49, 32, 50, 59, 108, 105, 110, 107, 48, 32, 52, 32, 49, 32, 50, 59, 108, 105, 110, 107, 48, 32, 53, 32, 49, 32, 50, 59, 108, 105, 110, 107, 48, 32, 54, 32, 49, 32, 50, 59, 108, 105, 110, 107, 48, 32, 55, 32, 49, 32, 50, 59, 108, 105, 110, 107, 49, 32, 50, 32, 49, 32, 50, 59, 108, 105, 110, 107, 49, 32, 51, 32, 49, 32, 50, 59, 108, 105, 110, 107, 49, 32, 52, 32, 49, 32, 50, 59, 108, 105, 110, 107, 49, 32, 53, 32, 49, 32, 50, 59, 108, 105, 110, 107, 49, 32, 54, 32, 49, 32, 50, 59, 108, 105, 110, 107, 49, 32, 55, 32, 49, 32, 50, 59, 108, 105, 110, 107, 49, 32, 48]) := h
  refine bL_most_99 (fun _ => ?_) (fun q => absurd q (by decide))
  refine bL_most_113 ?_
  refine bL_most_115 (l_says 32 53 32 50 (by decide) (by decide) (by decide) (by decide) (by decide) (by decide +kernel) h (fun I L h => ?_))
  have h : Cl I (uT S [110, 111, 100, 101, 115, 56, 32, 32, 59, 108, 105, 110, 107, 48, 32, 49, 32, 49, 32, 50, 59, 108, 105, 110, 107, 48, 32, 50, 32, 49, 32, 50, 59, 108, 105, 110, 107, 48, 32, 51, 32, 49, 32, 50, 59, 108, 105, 110, 107, 48, 32, 52, 32, 49, 32, 50, 59, 108, 105, 110, 107, 48, 32, 53, 32, 49, 32, 50, 59, 108, 105, 110, 107, 48, 32, 54, 32, 49, 32, 50, 59, 108, 105, 110, 107, 48, 32, 55, 32, 49, 32, 50, 59, 108, 105, 110, 107, 49, 32, 50, 32, 49, 32, 50, 59, 108, 105, 110, 107, 49, 32, 51, 32, 49, 32, 50, 59, 108, 105, 110, 107, 49, 32, 52, 32, 49, 32, 50, 59, 108, 105, 110, 107, 49, 32, 53, 32, 49, 32, 50, 59, 108, 105, 110, 107, 49, 32, 54, 32, 49, 32, 50, 59, 108, 105, 110, 107, 49, 32, 55, 32, 49, 32, 50, 59, 108, 105, 110, 107, 49, 32, 48, 32, 53, 32, 50]) := h
  refine bL_most_122 ?_
  refine bL_most_31 (fun _ => ?_) (fun q => absurd q (by decide))
  refine bL_most_128 (k_faultC (none) (by decide +kernel) (by decide +kernel) h (fun I L h => ?_))
  refine bL_most_132 (fun q => absurd q (by decide)) (fun _ => ?_)
  refine bL_most_136 (k_tell q_C1 (by rw [oFt_any (by decide +kernel)]; decide +kernel) (by decide +kernel) h (fun I L m W H hok h => ?_))
  have e : q_C1.foldl g_ap S.1 = q_s1 := by rw [h0]; rfl
  exact l_most2 (S := (q_C1.foldl g_ap S.1, [], (0, W), false, (0, H), q_L0, [], sG S)) e h (fun I L h => K I L _ h)
