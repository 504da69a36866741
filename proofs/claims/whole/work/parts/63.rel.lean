/-! ===== class and reference hold the same ===== -/
abbrev R_ne : List Nat := [64, 65, 66, 128, 192, 256, 320, 448, 3136, 3137, 3200, 3264, 3392]
abbrev R_tx : List Nat := [514, 576, 3159, 4096]
abbrev R_li : List Nat := [1666, 1728, 1792, 3144, 3520, 3584]
abbrev R_tr : List Nat := [1857, 1920, 3147, 3648]
abbrev R_pr : List Nat := [2757, 3149]
abbrev R_pa : List Nat := [710, 709, 768, 832, 896, 960, 3143, 3456]
abbrev R_le : List Nat := [2758, 2759, 2760, 2761, 2762, 3009, 3072, 384, 3171, 3172, 3173, 3174, 3175, 3176, 4480, 3328]
abbrev R_all : List Nat := R_ne ++ R_tx ++ R_li ++ R_tr ++ R_pr ++ R_pa ++ R_le
def Ag (R : List Nat) (I I' : Nat → Nat → Int32) : Prop := ∀ r, r ∈ R → I' r = I r
theorem Sm.ag {S R : List Nat} {I I' : Nat → Nat → Int32} (h : Sm S I I') (hd : ∀ r, r ∈ R → r ∉ S) : Ag R I I' := fun r hr => h r (hd r hr)
theorem Ag.sub {R R' : List Nat} {I I' : Nat → Nat → Int32} (h : Ag R I I') (hs : ∀ r, r ∈ R' → r ∈ R) : Ag R' I I' := fun r hr => h r (hs r hr)
theorem Ag.tr {R : List Nat} {I I' I'' : Nat → Nat → Int32} (h : Ag R I I') (h' : Ag R I' I'') : Ag R I I'' := fun r hr => (h' r hr).trans (h r hr)
def rTx (I : Nat → Nat → Int32) : Prop := ∃ (T : Nat → Nat) (len : Nat), cT I T len ∧ mT I T len
def rLi (I : Nat → Nat → Int32) (n ln : Nat) : Prop := ∃ F : List (Nat × Nat), F.length ≤ 8 ∧ (∀ p, p ∈ F → g_sg n ln p) ∧ I 1666 0 = nI F.length ∧ I 3144 0 = nI F.length ∧ ∀ t, t < F.length → I 1728 t = nI (F.getD t (0, 0)).1 ∧ I 1792 t = nI (F.getD t (0, 0)).2 ∧ I 3520 t = nI (F.getD t (0, 0)).1 ∧ I 3584 t = nI (F.getD t (0, 0)).2
def rTr (I : Nat → Nat → Int32) (n : Nat) : Prop := ∃ (m : Nat) (W : Nat → Nat), m ≤ 8 ∧ I 1857 0 = nI m ∧ I 3147 0 = nI m ∧ ∀ p, p < m → W p < n ∧ I 1920 p = nI (W p) ∧ I 3648 p = nI (W p)
def rPr (I : Nat → Nat → Int32) : Prop := ∃ pr, I 2757 0 = i_b pr ∧ I 3149 0 = i_b pr
/-- what up, costs, delays and what is seen were once -/
abbrev g_H : Type := Nat × (Nat → Nat) × (Nat → Nat) × (Nat → Nat)
def g_hs (σ : g_St) (h : g_H) : g_St := (σ.1, σ.2.1, σ.2.2.1, σ.2.2.2.1, h.2.1, h.2.2.1, h.1, h.2.2.2)
def g_ho (σ : g_St) : g_H := (σ.2.2.2.2.2.2.1, σ.2.2.2.2.1, σ.2.2.2.2.2.1, σ.2.2.2.2.2.2.2)
theorem g_hs_ho (σ : g_St) : g_hs σ (g_ho σ) = σ := rfl
/-- a change, as the class keeps it at a place of its ring: it leads from h back to h' -/
def cDl (I : Nat → Nat → Int32) (n ln p : Nat) (h h' : g_H) : Prop :=
  (I 768 p = 0 ∧ ∃ U', I 896 p = nI U' ∧ h' = (U', h.2.1, h.2.2.1, h.2.2.2)) ∨
  (I 768 p = 1 ∧ ∃ l v w, l < ln ∧ I 832 p = nI l ∧ I 896 p = nI v ∧ I 960 p = nI w ∧ h' = (h.1, g_set h.2.1 l v, g_set h.2.2.1 l w, h.2.2.2)) ∨
  (I 768 p = 2 ∧ ∃ u x, u < n ∧ I 832 p = nI u ∧ I 896 p = nI x ∧ h' = (h.1, h.2.1, h.2.2.1, g_set h.2.2.2 u x))
/-- what was, as the reference keeps it -/
def mSn (I : Nat → Nat → Int32) (n ln b : Nat) (h : g_H) : Prop := (∀ l, l < ln → I 3456 (b + l) = nI (h.2.1 l) ∧ I 3456 (b + 14 + l) = nI (h.2.2.1 l)) ∧ I 3456 (b + 28) = nI h.1 ∧ ∀ u, u < n → I 3456 (b + 29 + u) = nI (h.2.2.2 u)
def rPa (I : Nat → Nat → Int32) (σ : g_St) : Prop := ∃ (a ah : Nat) (H : Nat → g_H), a ≤ 8 ∧ ah < 8 ∧ I 710 0 = nI a ∧ I 709 0 = nI ah ∧ I 3143 0 = nI a ∧ H 0 = g_ho σ ∧ ∀ i, i < a → g_okS (g_hs σ (H (i + 1))) ∧ cDl I σ.1 σ.2.1 ((ah + 7 - i) % 8) (H i) (H (i + 1)) ∧ mSn I σ.1 σ.2.1 (37 * (a - 1 - i)) (H (i + 1))
def rLe (I : Nat → Nat → Int32) (k : Nat) : Prop := ∃ (s : Nat) (P : List Nat) (mm : Bool), s ≤ k ∧ P.length ≤ 21 ∧ I 2758 0 = nI s ∧ I 3171 0 = nI s ∧ I 2759 0 = I 3172 0 ∧ I 2761 0 = I 3174 0 ∧ I 2760 0 = I 3173 0 ∧ I 2762 0 = i_b mm ∧ I 3175 0 = i_b mm ∧ (∀ l, l < 14 → I 384 l = I 3328 l) ∧ (s = 0 → I 3176 0 = -1) ∧ (0 < s → 0 < P.length ∧ I 3009 0 = nI P.length ∧ I 3176 0 = nI P.length - 1 ∧ g_rp 3072 I P ∧ g_rp 4480 I P)
theorem rNe_ag {I I' : Nat → Nat → Int32} {σ : g_St} (h : cSt I σ ∧ mSt I σ) (e : Ag R_ne I I') : cSt I' σ ∧ mSt I' σ := by
  obtain ⟨n, ln, lo, hi, c0, c1, U, seen⟩ := σ
  obtain ⟨⟨⟨a1, a2, a3⟩, a4, a5, a6, a7⟩, ⟨⟨b1, b2, b3⟩, b4, b5, b6, b7⟩⟩ := h
  refine ⟨⟨⟨?_, ?_, fun l hl => ?_⟩, fun l hl => ?_, fun l hl => ?_, ?_, fun u hu => ?_⟩, ⟨⟨?_, ?_, fun l hl => ?_⟩, fun l hl => ?_, fun l hl => ?_, ?_, fun u hu => ?_⟩⟩
  · rw [e _ (by decide)]; exact a1
  · rw [e _ (by decide)]; exact a2
  · rw [e 128 (by decide), e 192 (by decide)]; exact a3 l hl
  · rw [e _ (by decide)]; exact a4 l hl
  · rw [e _ (by decide)]; exact a5 l hl
  · rw [e _ (by decide)]; exact a6
  · rw [e _ (by decide)]; exact a7 u hu
  · rw [e _ (by decide)]; exact b1
  · rw [e _ (by decide)]; exact b2
  · rw [e 3200 (by decide), e 3264 (by decide)]; exact b3 l hl
  · rw [e _ (by decide)]; exact b4 l hl
  · rw [e _ (by decide)]; exact b5 l hl
  · rw [e _ (by decide)]; exact b6
  · rw [e _ (by decide)]; exact b7 u hu
theorem rTx.ag {I I' : Nat → Nat → Int32} (h : rTx I) (e : Ag R_tx I I') : rTx I' := by
  obtain ⟨T, len, ⟨h1, h2, h3⟩, ⟨h4, h5, h6⟩⟩ := h
  exact ⟨T, len, ⟨by rw [e _ (by decide)]; exact h1, h2, fun j hj => by rw [e _ (by decide)]; exact h3 j hj⟩, ⟨by rw [e _ (by decide)]; exact h4, h5, fun j hj => by rw [e _ (by decide)]; exact h6 j hj⟩⟩
theorem rLi.ag {I I' : Nat → Nat → Int32} {n ln : Nat} (h : rLi I n ln) (e : Ag R_li I I') : rLi I' n ln := by
  obtain ⟨F, h1, h2, h3, h4, h5⟩ := h
  refine ⟨F, h1, h2, by rw [e _ (by decide)]; exact h3, by rw [e _ (by decide)]; exact h4, fun t ht => ?_⟩
  rw [e 1728 (by decide), e 1792 (by decide), e 3520 (by decide), e 3584 (by decide)]
  exact h5 t ht
theorem rTr.ag {I I' : Nat → Nat → Int32} {n : Nat} (h : rTr I n) (e : Ag R_tr I I') : rTr I' n := by
  obtain ⟨m, W, h1, h2, h3, h4⟩ := h
  refine ⟨m, W, h1, by rw [e _ (by decide)]; exact h2, by rw [e _ (by decide)]; exact h3, fun t ht => ?_⟩
  rw [e 1920 (by decide), e 3648 (by decide)]
  exact h4 t ht
theorem rPr.ag {I I' : Nat → Nat → Int32} (h : rPr I) (e : Ag R_pr I I') : rPr I' := by
  obtain ⟨pr, h1, h2⟩ := h
  exact ⟨pr, by rw [e _ (by decide)]; exact h1, by rw [e _ (by decide)]; exact h2⟩
theorem cDl.ag {I I' : Nat → Nat → Int32} {n ln p : Nat} {h h' : g_H} (hd : cDl I n ln p h h') (e1 : I' 768 p = I 768 p) (e2 : I' 832 p = I 832 p) (e3 : I' 896 p = I 896 p) (e4 : I' 960 p = I 960 p) : cDl I' n ln p h h' := by
  unfold cDl
  rw [e1, e2, e3, e4]
  exact hd
theorem mSn.ag {I I' : Nat → Nat → Int32} {n ln b : Nat} {h : g_H} (hd : mSn I n ln b h) (e : I' 3456 = I 3456) : mSn I' n ln b h := by
  unfold mSn
  rw [e]
  exact hd
theorem rPa.ag {I I' : Nat → Nat → Int32} {σ : g_St} (h : rPa I σ) (e : Ag R_pa I I') : rPa I' σ := by
  obtain ⟨a, ah, H, h1, h2, h3, h4, h5, h6, h7⟩ := h
  refine ⟨a, ah, H, h1, h2, by rw [e _ (by decide)]; exact h3, by rw [e _ (by decide)]; exact h4, by rw [e _ (by decide)]; exact h5, h6, fun i hi => ?_⟩
  obtain ⟨g1, g2, g3⟩ := h7 i hi
  exact ⟨g1, g2.ag (by rw [e _ (by decide)]) (by rw [e _ (by decide)]) (by rw [e _ (by decide)]) (by rw [e _ (by decide)]), g3.ag (e _ (by decide))⟩
theorem rLe.ag {I I' : Nat → Nat → Int32} {k k' : Nat} (h : rLe I k) (e : Ag R_le I I') (hk : k ≤ k') : rLe I' k' := by
  obtain ⟨s, P, mm, h1, h2, h3, h4, h5, h6, h7, h8, h9, h10, h11, h12⟩ := h
  refine ⟨s, P, mm, Nat.le_trans h1 hk, h2, ?_, ?_, ?_, ?_, ?_, ?_, ?_, fun l hl => ?_, fun q => ?_, fun q => ?_⟩
  · rw [e _ (by decide)]; exact h3
  · rw [e _ (by decide)]; exact h4
  · rw [e 2759 (by decide), e 3172 (by decide)]; exact h5
  · rw [e 2761 (by decide), e 3174 (by decide)]; exact h6
  · rw [e 2760 (by decide), e 3173 (by decide)]; exact h7
  · rw [e _ (by decide)]; exact h8
  · rw [e _ (by decide)]; exact h9
  · rw [e 384 (by decide), e 3328 (by decide)]; exact h10 l hl
  · rw [e _ (by decide)]; exact h11 q
  · obtain ⟨g1, g2, g3, g4, g5⟩ := h12 q
    exact ⟨g1, by rw [e _ (by decide)]; exact g2, by rw [e _ (by decide)]; exact g3, g_rp_sm g4 (fun i _ => by rw [e _ (by decide)]), g_rp_sm g5 (fun i _ => by rw [e _ (by decide)])⟩
def Rel (k : Nat) (I : Nat → Nat → Int32) : Prop := ∃ σ : g_St, g_okS σ ∧ (cSt I σ ∧ mSt I σ) ∧ rTx I ∧ rLi I σ.1 σ.2.1 ∧ rTr I σ.1 ∧ rPr I ∧ rPa I σ ∧ rLe I k
theorem Rel.ag {k k' : Nat} {I I' : Nat → Nat → Int32} (h : Rel k I) (e : Ag R_all I I') (hk : k ≤ k') : Rel k' I' := by
  obtain ⟨σ, h1, h2, h3, h4, h5, h6, h7, h8⟩ := h
  exact ⟨σ, h1, rNe_ag h2 (e.sub (by decide)), h3.ag (e.sub (by decide)), h4.ag (e.sub (by decide)), h5.ag (e.sub (by decide)), h6.ag (e.sub (by decide)), h7.ag (e.sub (by decide)), h8.ag (e.sub (by decide)) hk⟩
theorem Rel.sm {k k' : Nat} {S : List Nat} {I I' : Nat → Nat → Int32} (h : Rel k I) (hs : Sm S I I') (hd : ∀ r, r ∈ R_all → r ∉ S) (hk : k ≤ k') : Rel k' I' := h.ag (hs.ag hd) hk
/-- a call on the class, then the same on the reference: the same answer, and they hold the same -/
def Op (k : Nat) (mc mm : x_Mth) (as : List (Nat × Value)) (I : Nat → Nat → Int32) (L : Nat → Int64) : Prop := XS mc 0 ((0, .ref 0) :: as) [] I L (fun r I1 L1 => ∃ v, r = some (.int v) ∧ XS mm 0 ((0, .ref 49) :: as) [] I1 L1 (fun r2 I2 _ => r2 = some (.int v) ∧ Rel (k + 1) I2))
theorem o_erase {k : Nat} {I : Nat → Nat → Int32} {L : Nat → Int64} (h : Rel k I) : Op k mX9_erase mX10_erase [] I L := by
  obtain ⟨σ, h1, h2, ⟨T, len, hT, hT'⟩, h4, h5, h6, h7, h8⟩ := h
  refine bX9_erase_0 ⟨_, rfl, bX10_erase_0 ⟨?_, σ, h1, ?_⟩⟩
  · rw [x_up_ne (by decide), show I 3159 0 = nI len from hT'.1, show I 514 0 = nI len from hT.1]
  · have s : Sm [514, 3159] I (x_up (x_up I 514 0 0) 3159 0 0) := (Sm.rf.up (by decide)).up (by decide)
    refine ⟨rNe_ag h2 (s.ag (by decide)), ⟨T, 0, ⟨?_, by omega, fun j hj => by omega⟩, ⟨?_, by omega, fun j hj => by omega⟩⟩, h4.ag (s.ag (by decide)), h5.ag (s.ag (by decide)), h6.ag (s.ag (by decide)), h7.ag (s.ag (by decide)), h8.ag (s.ag (by decide)) (by omega)⟩
    · rw [x_up_ne (by decide), x_up_at]; rfl
    · rw [x_up_at]; rfl
theorem o_fault {k : Nat} {I : Nat → Nat → Int32} {L : Nat → Int64} (h : Rel k I) : Op k mX9_fault mX10_fault [] I L := by
  have h' := h
  obtain ⟨σ, h1, ⟨h2, h3⟩, ⟨T, len, hT, hT'⟩, -⟩ := h
  have hG : cG I σ.1 σ.2.1 σ.2.2.1 σ.2.2.2.1 := by obtain ⟨n, ln, lo, hi, c0, c1, U, seen⟩ := σ; exact h2.1
  refine bX9_fault_0 (c_findFault hG (g_okS_E h1).2.2.2 hT (fun I1 L1 s1 _ => bX9_fault_7 ⟨_, rfl, s_fault h1 (h3.sm s1 (by decide) (by decide) (by decide) (by decide) (by decide)) (hT'.sm s1 (by decide) (by decide)) (fun I2 s2 => ⟨rfl, ?_⟩)⟩))
  exact (h'.sm s1 (by decide) (Nat.le_refl _)).sm s2 (by decide) (by omega)
theorem o_write {k : Nat} {x : Int32} {I : Nat → Nat → Int32} {L : Nat → Int64} (h : Rel k I) : Op k mX9_write mX10_write [(1, .int x)] I L := by
  have h' := h
  obtain ⟨σ, h1, h2, ⟨T, len, hT, hT'⟩, h4, h5, h6, h7, h8⟩ := h
  have hl := hT.2.1
  have e1 : I 514 0 = nI len := hT.1
  have e2 : I 3159 0 = nI len := hT'.1
  have out : ¬ (¬ x < 0 ∧ ¬ (255 : Int32) < x) → XS mX9_write 11 [] [] I L (fun r I1 L1 => ∃ v, r = some (.int v) ∧ XS mX10_write 0 [(0, .ref 49), (1, .int x)] [] I1 L1 (fun r2 I2 _ => r2 = some (.int v) ∧ Rel (k + 1) I2)) := fun hb => by
    refine bX9_write_11 ⟨_, rfl, bX10_write_0 (s_in (a := 0) (b := 0) (c := 0) false ⟨fun q => (by cases q), fun q => absurd q hb⟩ (bX10_write_8 (fun q => absurd rfl q) (fun _ => bX10_write_11 ⟨rfl, h'.sm (S := []) Sm.rf (by decide) (by omega)⟩)))⟩
  refine bX9_write_0 (fun q => out (fun z => z.1 q)) (fun q => bX9_write_4 (fun q2 => ?_) (fun q2 => out (fun z => q2 (Int32.not_lt.mp z.2))))
  have hin : ¬ (255 : Int32) < x := Int32.not_lt.mpr q2
  obtain ⟨a, ha, rfl⟩ := nI_of q
  have ha2 : a ≤ 255 := (i_le a 255 rfl rfl ha (by decide)).mp q2
  have go : ∀ I1 (L1 : Nat → Int64) (Q : Option Value → (Nat → Nat → Int32) → (Nat → Int64) → Prop), XS mX10_write 14 [(0, .ref 49), (1, .int (nI a))] [] I1 L1 Q → XS mX10_write 0 [(0, .ref 49), (1, .int (nI a))] [] I1 L1 Q := fun I1 L1 Q K =>
    bX10_write_0 (s_in (a := 0) (b := 0) (c := 0) true ⟨fun _ => ⟨q, hin⟩, fun _ => rfl⟩ (bX10_write_8 (fun _ => K) (fun z => absurd z (by decide))))
  refine bX9_write_14 (fun q3 => bX9_write_30 ?_) (fun q3 => bX9_write_27 ⟨_, rfl, go _ _ _ (bX10_write_14 (fun q4 => ?_) (fun q4 => bX10_write_24 ⟨rfl, h'.sm (S := []) Sm.rf (by decide) (by omega)⟩))⟩)
  · rw [e1] at q3
    have q3' := (i_lt len 200 rfl rfl (by omega) (by decide)).mp q3
    refine bX8_addLetter_0 (fun z => ?_) (fun _ => bX8_addLetter_10 (by rw [e1]; exact vp_in_nI q3' (by decide)) ?_)
    · rw [e1] at z
      have := (i_le 200 len rfl rfl (by decide) (by omega)).mp z; omega
    · have e3 : (x_up I 576 len (nI a)) 514 0 + (1 : Int32) = nI (len + 1) := by rw [x_up_ne (by decide), e1, nI_1]
      rw [e1, nI_clamp (by omega), e3]
      have s1 : Sm [576, 514] I (x_up (x_up I 576 len (nI a)) 514 0 (nI (len + 1))) := (Sm.rf.up (by decide)).up (by decide)
      have a1 : (x_up (x_up I 576 len (nI a)) 514 0 (nI (len + 1))) 514 0 = nI (len + 1) := x_up_at
      have a2 : ∀ j, (x_up (x_up I 576 len (nI a)) 514 0 (nI (len + 1))) 576 j = if j = len then nI a else I 576 j := fun j => by
        rw [x_up_ne (by decide), x_up_app]
        simp
      generalize (x_up (x_up I 576 len (nI a)) 514 0 (nI (len + 1))) = I1 at s1 a1 a2 ⊢
      have e4 : I1 3159 0 = nI len := by rw [s1 3159 (by decide)]; exact e2
      have e5 : (x_up I1 4096 len (nI a)) 3159 0 + (1 : Int32) = nI (len + 1) := by rw [x_up_ne (by decide), e4, nI_1]
      refine bX8_addLetter_30 (bX9_write_38 ⟨_, rfl, go _ _ _ (bX10_write_14 (fun _ => bX10_write_27 (by rw [e4]; exact vp_in_nI q3' (by decide)) ?_) (fun z => ?_))⟩)
      · rw [e4, nI_clamp (by omega), e5, x_up_at, a1]
        have s2 : Sm [4096, 3159] I1 (x_up (x_up I1 4096 len (nI a)) 3159 0 (nI (len + 1))) := (Sm.rf.up (by decide)).up (by decide)
        have s3 : Sm [576, 514, 4096, 3159] I (x_up (x_up I1 4096 len (nI a)) 3159 0 (nI (len + 1))) := (s1.mono (by decide)).tr (s2.mono (by decide))
        refine ⟨rfl, σ, h1, rNe_ag h2 (s3.ag (by decide)), ⟨fun j => if j = len then a else T j, len + 1, ⟨?_, by omega, fun j hj => ?_⟩, ⟨?_, by omega, fun j hj => ?_⟩⟩, h4.ag (s3.ag (by decide)), h5.ag (s3.ag (by decide)), h6.ag (s3.ag (by decide)), h7.ag (s3.ag (by decide)), h8.ag (s3.ag (by decide)) (by omega)⟩
        · rw [s2 _ (by decide)]; exact a1
        · rw [s2 _ (by decide), a2 j]
          dsimp only
          by_cases hjl : j = len
          · rw [if_pos hjl, if_pos hjl]; exact ⟨rfl, by omega⟩
          · rw [if_neg hjl, if_neg hjl]; exact hT.2.2 j (by omega)
        · rw [x_up_at]
        · rw [x_up_ne (by decide), x_up_app]
          dsimp only
          by_cases hjl : j = len
          · rw [if_pos ⟨rfl, hjl⟩, if_pos hjl]; exact ⟨rfl, by omega⟩
          · rw [if_neg (fun z => hjl z.2), if_neg hjl, s1 _ (by decide)]; exact hT'.2.2 j (by omega)
      · rw [e4] at z
        have := (i_eq len 200 rfl rfl (by omega) (by decide)).mp z; omega
  · exfalso
    rw [e1] at q3
    rw [e2] at q4
    have : ¬ len < 200 := fun z => q3 ((i_lt len 200 rfl rfl (by omega) (by decide)).mpr z)
    exact q4 ((i_eq len 200 rfl rfl (by omega) (by decide)).mpr (by omega))
