/-! ===== what the class holds, as one value ===== -/
abbrev R_ne : List Nat := [64, 65, 66, 128, 192, 256, 320, 448]
abbrev R_tx : List Nat := [514, 576]
abbrev R_li : List Nat := [1666, 1728, 1792]
abbrev R_tr : List Nat := [1857, 1920]
abbrev R_pr : List Nat := [2757]
abbrev R_pa : List Nat := [710, 709, 768, 832, 896, 960]
abbrev R_le : List Nat := [2758, 2759, 2760, 2761, 2762, 3009, 3072, 384]
abbrev R_all : List Nat := R_ne ++ R_tx ++ R_li ++ R_tr ++ R_pr ++ R_pa ++ R_le ++ [3136]
def Ag (R : List Nat) (I I' : Nat → Nat → Int32) : Prop := ∀ r, r ∈ R → I' r = I r
theorem Sm.ag {S R : List Nat} {I I' : Nat → Nat → Int32} (h : Sm S I I') (hd : ∀ r, r ∈ R → r ∉ S) : Ag R I I' := fun r hr => h r (hd r hr)
theorem Ag.sub {R R' : List Nat} {I I' : Nat → Nat → Int32} (h : Ag R I I') (hs : ∀ r, r ∈ R' → r ∈ R) : Ag R' I I' := fun r hr => h r (hs r hr)
theorem Ag.tr {R : List Nat} {I I' I'' : Nat → Nat → Int32} (h : Ag R I I') (h' : Ag R I' I'') : Ag R I I'' := fun r hr => (h' r hr).trans (h r hr)
def eN (n ln : Nat) (lo hi c0 c1 : Nat → Nat) (U : Nat) (seen : Nat → Nat) : Prop := g_net n ln lo hi ∧ g_cs ln c0 ∧ g_cs ln c1 ∧ U < 2 ^ 14 ∧ (∀ u, u < n → seen u < 2 ^ 14) ∧ U < 2 ^ 31 ∧ ∀ u, u < n → seen u < 2 ^ 31
theorem g_okS_eN {n ln : Nat} {lo hi c0 c1 : Nat → Nat} {U : Nat} {seen : Nat → Nat} (h : g_okS (n, ln, lo, hi, c0, c1, U, seen)) : eN n ln lo hi c0 c1 U seen := by
  obtain ⟨h1, h2, h3, h4, h5⟩ := h
  have hl := h1.2.2.1
  have hp : 2 ^ ln ≤ 2 ^ 14 := Nat.pow_le_pow_right (by omega) hl
  have hq : 2 ^ 14 ≤ 2 ^ 31 := Nat.pow_le_pow_right (by omega) (by omega)
  exact ⟨h1, h2, h3, Nat.lt_of_lt_of_le h4 hp, fun u hu => Nat.lt_of_lt_of_le (h5 u hu) hp, Nat.lt_of_lt_of_le h4 (Nat.le_trans hp hq), fun u hu => Nat.lt_of_lt_of_le (h5 u hu) (Nat.le_trans hp hq)⟩
/-- what up, costs, delays and what is seen were once -/
abbrev g_H : Type := Nat × (Nat → Nat) × (Nat → Nat) × (Nat → Nat)
def g_hs (σ : g_St) (h : g_H) : g_St := (σ.1, σ.2.1, σ.2.2.1, σ.2.2.2.1, h.2.1, h.2.2.1, h.1, h.2.2.2)
def g_ho (σ : g_St) : g_H := (σ.2.2.2.2.2.2.1, σ.2.2.2.2.1, σ.2.2.2.2.2.1, σ.2.2.2.2.2.2.2)
theorem g_hs_ho (σ : g_St) : g_hs σ (g_ho σ) = σ := rfl
/-- a change, as the class keeps it at a place of its ring: it leads from h back to h' -/
def cDl (I : Nat → Nat → Int32) (n ln p : Nat) (h h' : g_H) : Prop :=
  (I 768 p = 0 ∧ ∃ U', I 896 p = nI U' ∧ h' = (U', h.2.1, h.2.2.1, h.2.2.2)) ∨
  (I 768 p = 1 ∧ ∃ l v w, l < ln ∧ I 832 p = nI l ∧ I 896 p = nI v ∧ I 960 p = nI w ∧ h' = (h.1, g_set h.2.1 l v, g_set h.2.2.1 l w, h.2.2.2)) ∨
  (I 768 p = 2 ∧ ∃ u x, u < n ∧ I 832 p = nI u ∧ I 896 p = nI x ∧ h' = (h.1, h.2.1, h.2.2.1, g_set h.2.2.2 u x))
/-- letters: sent, there, mended, lost, crossed, the way of the last one, it was mended -/
abbrev q_Le : Type := Nat × Int32 × Int32 × Int32 × (Nat → Nat) × List Nat × Bool
/-- net, the list, the trace, protection, the past, letters, the text, the law's own numbers -/
abbrev q_S : Type := g_St × List (Nat × Nat) × (Nat × (Nat → Nat)) × Bool × (Nat × (Nat → g_H)) × q_Le × List Nat × (Nat → Int32)
abbrev sF (S : q_S) := S.2.1
abbrev sW (S : q_S) := S.2.2.1
abbrev sP (S : q_S) := S.2.2.2.1
abbrev sA (S : q_S) := S.2.2.2.2.1
abbrev sL (S : q_S) := S.2.2.2.2.2.1
abbrev sT (S : q_S) := S.2.2.2.2.2.2.1
abbrev sG (S : q_S) := S.2.2.2.2.2.2.2
abbrev uN (S : q_S) (σ : g_St) : q_S := (σ, S.2)
abbrev uF (S : q_S) (F : List (Nat × Nat)) : q_S := (S.1, F, S.2.2)
abbrev uW (S : q_S) (W : Nat × (Nat → Nat)) : q_S := (S.1, S.2.1, W, S.2.2.2)
abbrev uP (S : q_S) (p : Bool) : q_S := (S.1, S.2.1, S.2.2.1, p, S.2.2.2.2)
abbrev uA (S : q_S) (a : Nat × (Nat → g_H)) : q_S := (S.1, S.2.1, S.2.2.1, S.2.2.2.1, a, S.2.2.2.2.2)
abbrev uL (S : q_S) (z : q_Le) : q_S := (S.1, S.2.1, S.2.2.1, S.2.2.2.1, S.2.2.2.2.1, z, S.2.2.2.2.2.2)
abbrev uT (S : q_S) (t : List Nat) : q_S := (S.1, S.2.1, S.2.2.1, S.2.2.2.1, S.2.2.2.2.1, S.2.2.2.2.2.1, t, S.2.2.2.2.2.2.2)
abbrev uG (S : q_S) (G : Nat → Int32) : q_S := (S.1, S.2.1, S.2.2.1, S.2.2.2.1, S.2.2.2.2.1, S.2.2.2.2.2.1, S.2.2.2.2.2.2.1, G)
def qLi (I : Nat → Nat → Int32) (n ln : Nat) (F : List (Nat × Nat)) : Prop := F.length ≤ 8 ∧ (∀ p, p ∈ F → g_sg n ln p) ∧ I 1666 0 = nI F.length ∧ ∀ t, t < F.length → I 1728 t = nI (F.getD t (0, 0)).1 ∧ I 1792 t = nI (F.getD t (0, 0)).2
def qTr (I : Nat → Nat → Int32) (n : Nat) (w : Nat × (Nat → Nat)) : Prop := w.1 ≤ 8 ∧ I 1857 0 = nI w.1 ∧ ∀ p, p < w.1 → w.2 p < n ∧ I 1920 p = nI (w.2 p)
def qPr (I : Nat → Nat → Int32) (pr : Bool) : Prop := I 2757 0 = i_b pr
def qPa (I : Nat → Nat → Int32) (σ : g_St) (p : Nat × (Nat → g_H)) : Prop := ∃ ah : Nat, p.1 ≤ 8 ∧ ah < 8 ∧ I 710 0 = nI p.1 ∧ I 709 0 = nI ah ∧ p.2 0 = g_ho σ ∧ ∀ i, i < p.1 → g_okS (g_hs σ (p.2 (i + 1))) ∧ cDl I σ.1 σ.2.1 ((ah + 7 - i) % 8) (p.2 i) (p.2 (i + 1))
def qLe (I : Nat → Nat → Int32) : q_Le → Prop
  | (s, th, md, lo, X, P, mm) => s < 1000000 ∧ P.length ≤ 21 ∧ (∀ l, X l ≤ 20 * s) ∧ I 2758 0 = nI s ∧ I 2759 0 = th ∧ I 2760 0 = md ∧ I 2761 0 = lo ∧ I 2762 0 = i_b mm ∧ (∀ l, l < 14 → I 384 l = nI (X l)) ∧ (0 < s → 0 < P.length ∧ I 3009 0 = nI P.length ∧ g_rp 3072 I P)
def qTx (I : Nat → Nat → Int32) (t : List Nat) : Prop := cT I (fun j => t.getD j 0) t.length
theorem qNe_ag {I I' : Nat → Nat → Int32} {σ : g_St} (h : cSt I σ) (e : Ag R_ne I I') : cSt I' σ := by
  obtain ⟨n, ln, lo, hi, c0, c1, U, seen⟩ := σ
  obtain ⟨⟨a1, a2, a3⟩, a4, a5, a6, a7⟩ := h
  refine ⟨⟨?_, ?_, fun l hl => ?_⟩, fun l hl => ?_, fun l hl => ?_, ?_, fun u hu => ?_⟩
  · rw [e _ (by decide)]; exact a1
  · rw [e _ (by decide)]; exact a2
  · rw [e 128 (by decide), e 192 (by decide)]; exact a3 l hl
  · rw [e _ (by decide)]; exact a4 l hl
  · rw [e _ (by decide)]; exact a5 l hl
  · rw [e _ (by decide)]; exact a6
  · rw [e _ (by decide)]; exact a7 u hu
theorem qTx.ag {I I' : Nat → Nat → Int32} {t : List Nat} (h : qTx I t) (e : Ag R_tx I I') : qTx I' t := by
  obtain ⟨h1, h2, h3⟩ := h
  exact ⟨by rw [e _ (by decide)]; exact h1, h2, fun j hj => by rw [e _ (by decide)]; exact h3 j hj⟩
theorem qLi.ag {I I' : Nat → Nat → Int32} {n ln : Nat} {F : List (Nat × Nat)} (h : qLi I n ln F) (e : Ag R_li I I') : qLi I' n ln F := by
  obtain ⟨h1, h2, h3, h5⟩ := h
  refine ⟨h1, h2, by rw [e _ (by decide)]; exact h3, fun t ht => ?_⟩
  rw [e 1728 (by decide), e 1792 (by decide)]
  exact h5 t ht
theorem qTr.ag {I I' : Nat → Nat → Int32} {n : Nat} {w : Nat × (Nat → Nat)} (h : qTr I n w) (e : Ag R_tr I I') : qTr I' n w := by
  obtain ⟨h1, h2, h4⟩ := h
  refine ⟨h1, by rw [e _ (by decide)]; exact h2, fun t ht => ?_⟩
  rw [e 1920 (by decide)]
  exact h4 t ht
theorem qPr.ag {I I' : Nat → Nat → Int32} {pr : Bool} (h : qPr I pr) (e : Ag R_pr I I') : qPr I' pr := by
  show I' _ 0 = _
  rw [e _ (by decide)]; exact h
theorem cDl.ag {I I' : Nat → Nat → Int32} {n ln p : Nat} {h h' : g_H} (hd : cDl I n ln p h h') (e1 : I' 768 p = I 768 p) (e2 : I' 832 p = I 832 p) (e3 : I' 896 p = I 896 p) (e4 : I' 960 p = I 960 p) : cDl I' n ln p h h' := by
  unfold cDl
  rw [e1, e2, e3, e4]
  exact hd
theorem qPa.ag {I I' : Nat → Nat → Int32} {σ : g_St} {p : Nat × (Nat → g_H)} (h : qPa I σ p) (e : Ag R_pa I I') : qPa I' σ p := by
  obtain ⟨ah, h1, h2, h3, h4, h6, h7⟩ := h
  refine ⟨ah, h1, h2, by rw [e _ (by decide)]; exact h3, by rw [e _ (by decide)]; exact h4, h6, fun i hi => ?_⟩
  obtain ⟨g1, g2⟩ := h7 i hi
  exact ⟨g1, g2.ag (by rw [e _ (by decide)]) (by rw [e _ (by decide)]) (by rw [e _ (by decide)]) (by rw [e _ (by decide)])⟩
theorem qLe.ag {I I' : Nat → Nat → Int32} {z : q_Le} (h : qLe I z) (e : Ag R_le I I') : qLe I' z := by
  obtain ⟨s, th, md, lo, X, P, mm⟩ := z
  obtain ⟨h0, h1, h2, h3, h4, h5, h6, h7, h8, h9⟩ := h
  refine ⟨h0, h1, h2, ?_, ?_, ?_, ?_, ?_, fun l hl => ?_, fun q => ?_⟩
  · rw [e _ (by decide)]; exact h3
  · rw [e _ (by decide)]; exact h4
  · rw [e _ (by decide)]; exact h5
  · rw [e _ (by decide)]; exact h6
  · rw [e _ (by decide)]; exact h7
  · rw [e _ (by decide)]; exact h8 l hl
  · obtain ⟨g1, g2, g4⟩ := h9 q
    exact ⟨g1, by rw [e _ (by decide)]; exact g2, g_rp_sm g4 (fun i _ => by rw [e _ (by decide)])⟩
def Cl (I : Nat → Nat → Int32) (S : q_S) : Prop := g_okS S.1 ∧ cSt I S.1 ∧ qTx I (sT S) ∧ qLi I S.1.1 S.1.2.1 (sF S) ∧ qTr I S.1.1 (sW S) ∧ qPr I (sP S) ∧ qPa I S.1 (sA S) ∧ qLe I (sL S) ∧ I 3136 = sG S
theorem Cl.ag {I I' : Nat → Nat → Int32} {S : q_S} (h : Cl I S) (e : Ag R_all I I') : Cl I' S := by
  obtain ⟨h1, h2, h3, h4, h5, h6, h7, h8, h9⟩ := h
  exact ⟨h1, qNe_ag h2 (e.sub (by decide)), h3.ag (e.sub (by decide)), h4.ag (e.sub (by decide)), h5.ag (e.sub (by decide)), h6.ag (e.sub (by decide)), h7.ag (e.sub (by decide)), h8.ag (e.sub (by decide)), (e 3136 (by decide)).trans h9⟩
theorem Cl.sm {S : q_S} {T : List Nat} {I I' : Nat → Nat → Int32} (h : Cl I S) (hs : Sm T I I') (hd : ∀ r, r ∈ R_all → r ∉ T) : Cl I' S := h.ag (hs.ag hd)
theorem Cl.opn {I : Nat → Nat → Int32} {S : q_S} (h : Cl I S) : ∃ (n ln : Nat) (lo hi c0 c1 : Nat → Nat) (U : Nat) (seen : Nat → Nat), S.1 = (n, ln, lo, hi, c0, c1, U, seen) ∧ eN n ln lo hi c0 c1 U seen ∧ (cG I n ln lo hi ∧ cC I ln 0 c0 ∧ cC I ln 1 c1 ∧ I 66 0 = nI U ∧ ∀ u, u < n → I 448 u = nI (seen u)) := by
  obtain ⟨⟨n, ln, lo, hi, c0, c1, U, seen⟩, S2⟩ := S
  exact ⟨n, ln, lo, hi, c0, c1, U, seen, rfl, g_okS_eN h.1, h.2.1⟩
