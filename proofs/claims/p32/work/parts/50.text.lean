/-! ===== the text: tokens, pure and in the class ===== -/
def g_rw (c : Nat) : Nat := if 97 ≤ c ∧ c ≤ 122 then 1 else if 48 ≤ c ∧ c ≤ 57 then 2 else 0
def g_sb (T : Nat → Nat) : Nat → Nat → Nat
  | 0, i => i
  | f + 1, i => if T i = 32 then g_sb T f (i + 1) else i
def g_skip (T : Nat → Nat) (len i : Nat) : Nat := g_sb T (len - i) i
def g_run (T : Nat → Nat) (r : Nat) : Nat → Nat → Nat
  | 0, q => q
  | f + 1, q => if g_rw (T q) = r then g_run T r f (q + 1) else q
def g_tend (T : Nat → Nat) (len p : Nat) : Nat := if len ≤ p then p else if g_rw (T p) = 0 then p + 1 else g_run T (g_rw (T p)) (len - (p + 1)) (p + 1)
theorem g_sb_le (T : Nat → Nat) : ∀ f i, i ≤ g_sb T f i ∧ g_sb T f i ≤ i + f := by
  intro f
  induction f with
  | zero => intro i; exact ⟨Nat.le_refl _, Nat.le_refl _⟩
  | succ f ih =>
    intro i
    have e : g_sb T (f + 1) i = if T i = 32 then g_sb T f (i + 1) else i := rfl
    rw [e]
    split
    · have := ih (i + 1); omega
    · omega
theorem g_skip_le {T : Nat → Nat} {len i : Nat} (h : i ≤ len) : i ≤ g_skip T len i ∧ g_skip T len i ≤ len := by
  have := g_sb_le T (len - i) i
  unfold g_skip
  omega
theorem g_run_le (T : Nat → Nat) (r : Nat) : ∀ f q, q ≤ g_run T r f q ∧ g_run T r f q ≤ q + f := by
  intro f
  induction f with
  | zero => intro q; exact ⟨Nat.le_refl _, Nat.le_refl _⟩
  | succ f ih =>
    intro q
    have e : g_run T r (f + 1) q = if g_rw (T q) = r then g_run T r f (q + 1) else q := rfl
    rw [e]
    split
    · have := ih (q + 1); omega
    · omega
theorem g_tend_le {T : Nat → Nat} {len p : Nat} (h : p ≤ len) : p ≤ g_tend T len p ∧ g_tend T len p ≤ len ∧ (p < len → p < g_tend T len p) := by
  unfold g_tend
  split
  · omega
  · split
    · omega
    · have := g_run_le T (g_rw (T p)) (len - (p + 1)) (p + 1)
      omega
theorem g_rw_lt (c : Nat) : g_rw c < 3 := by
  unfold g_rw
  split
  · omega
  · split <;> omega
/-- the text as it stands in a region -/
def g_tx (r : Nat) (I : Nat → Nat → Int32) (T : Nat → Nat) (len : Nat) : Prop := len ≤ 200 ∧ ∀ j, j < len → I r j = nI (T j) ∧ T j < 256
def cT (I : Nat → Nat → Int32) (T : Nat → Nat) (len : Nat) : Prop := I 514 0 = nI len ∧ g_tx 576 I T len
theorem cT.sm {I I' : Nat → Nat → Int32} {T : Nat → Nat} {len : Nat} {S : List Nat} (h : cT I T len) (hs : Sm S I I') (h1 : 514 ∉ S) (h2 : 576 ∉ S) : cT I' T len :=
  ⟨by rw [hs _ h1]; exact h.1, h.2.1, fun j hj => by rw [hs _ h2]; exact h.2.2 j hj⟩
theorem c_skipBlanks {T : Nat → Nat} {len i : Nat} {I : Nat → Nat → Int32} {L : Nat → Int64} {Q : Option Value → (Nat → Nat → Int32) → (Nat → Int64) → Prop} (hT : cT I T len) (hi : i ≤ len) (K : Q (some (.int (nI (g_skip T len i)))) I L) : XS mX8_skipBlanks 0 [(0, .ref 8), (1, .int (nI i))] [] I L Q := by
  have hl := hT.2.1
  have ht : I 514 0 = nI len := hT.1
  have key : ∀ f i, i + f = len → Q (some (.int (nI (g_sb T f i)))) I L → XS mX8_skipBlanks 2 [(0, .ref 8), (2, .int (nI i))] [] I L Q := by
    intro f
    induction f with
    | zero =>
      intro i hi K
      refine bX8_skipBlanks_2 (fun _ => bX8_skipBlanks_27 K) (fun h => ?_)
      rw [ht, nI_leI (by omega) (by omega)] at h; omega
    | succ f ih =>
      intro i hi K
      have e : g_sb T (f + 1) i = if T i = 32 then g_sb T f (i + 1) else i := rfl
      rw [e] at K
      have hx := hT.2.2 i (by omega)
      have hx1 : I 576 i = nI (T i) := hx.1
      refine bX8_skipBlanks_2 (fun h => ?_) (fun _ => bX8_skipBlanks_10 (vp_in_nI (by omega) (by decide)) (fun h => bX8_skipBlanks_27 ?_) (fun h => bX8_skipBlanks_21 ?_))
      · rw [ht, nI_leI (by omega) (by omega)] at h; omega
      · rw [nI_clamp (by omega), hx1] at h
        rw [if_neg (fun q => h (by rw [q]; rfl))] at K
        exact K
      · rw [nI_clamp (by omega), hx1] at h
        have := (i_eq _ 32 rfl rfl (by omega) (by decide)).mp h
        rw [if_pos this] at K
        rw [nI_1]
        exact ih (i + 1) (by omega) K
  exact bX8_skipBlanks_0 (key (len - i) i (by omega) K)
theorem c_rowOf {c : Nat} {I : Nat → Nat → Int32} {L : Nat → Int64} {Q : Option Value → (Nat → Nat → Int32) → (Nat → Int64) → Prop} (hc : c < 2 ^ 31) (K : Q (some (.int (nI (g_rw c)))) I L) : XS mX8_rowOf 0 [(0, .int (nI c))] [] I L Q := by
  have second : ¬ (97 ≤ c ∧ c ≤ 122) → XS mX8_rowOf 14 [(0, .int (nI c))] [] I L Q := by
    intro h0
    unfold g_rw at K
    rw [if_neg h0] at K
    refine bX8_rowOf_14 (fun h => bX8_rowOf_30 (bX8_rowOf_31 ?_)) (fun h => bX8_rowOf_20 (fun h2 => bX8_rowOf_30 (bX8_rowOf_31 ?_)) (fun h2 => bX8_rowOf_26 (bX8_rowOf_31 ?_)))
    · have := (i_lt c 48 rfl rfl hc (by decide)).mp h
      rw [if_neg (by omega)] at K; exact K
    · have := (i_lt 57 c rfl rfl (by decide) hc).mp h2
      rw [if_neg (by omega)] at K; exact K
    · have a : ¬ c < 48 := fun q => h ((i_lt c 48 rfl rfl hc (by decide)).mpr q)
      have b : ¬ 57 < c := fun q => h2 ((i_lt 57 c rfl rfl (by decide) hc).mpr q)
      rw [if_pos (by omega)] at K; exact K
  refine bX8_rowOf_0 (fun h => second ?_) (fun h => bX8_rowOf_6 (fun h2 => second ?_) (fun h2 => bX8_rowOf_12 ?_))
  · have := (i_lt c 97 rfl rfl hc (by decide)).mp h; omega
  · have := (i_lt 122 c rfl rfl (by decide) hc).mp h2; omega
  · have a : ¬ c < 97 := fun q => h ((i_lt c 97 rfl rfl hc (by decide)).mpr q)
    have b : ¬ 122 < c := fun q => h2 ((i_lt 122 c rfl rfl (by decide) hc).mpr q)
    unfold g_rw at K
    rw [if_pos (by omega)] at K; exact K
/-- the token read last stands from p to ahead of e -/
def cTk (I : Nat → Nat → Int32) (p e : Nat) : Prop := I 517 0 = nI p ∧ I 518 0 = nI e
theorem c_readToken {T : Nat → Nat} {len i : Nat} {I : Nat → Nat → Int32} {L : Nat → Int64} {Q : Option Value → (Nat → Nat → Int32) → (Nat → Int64) → Prop} (hT : cT I T len) (hi : i ≤ len) (he : I 518 0 = nI i) (K : ∀ I', Sm [517, 518] I I' → cTk I' (g_skip T len i) (g_tend T len (g_skip T len i)) → Q none I' L) : XS mX8_readToken 0 [(0, .ref 8)] [] I L Q := by
  have hl := hT.2.1
  have hs := g_skip_le (T := T) hi
  have he' : I 518 0 = nI i := he
  refine bX8_readToken_0 ?_
  rw [he']
  refine c_skipBlanks hT hi ?_
  generalize g_skip T len i = p at hs K ⊢
  have s1 : Sm [517, 518] I (x_up (x_up I 517 0 (nI p)) 518 0 ((x_up I 517 0 (nI p)) 517 0)) := (Sm.rf.up (by decide)).up (by decide)
  have e1 : (x_up (x_up I 517 0 (nI p)) 518 0 ((x_up I 517 0 (nI p)) 517 0)) 517 0 = nI p := by rw [x_up_ne (by decide), x_up_at]
  have e2 : (x_up (x_up I 517 0 (nI p)) 518 0 ((x_up I 517 0 (nI p)) 517 0)) 518 0 = nI p := by rw [x_up_at, x_up_at]
  have hgo := @bX8_readToken_9 I L Q (nI p)
  revert hgo
  generalize (x_up (x_up I 517 0 (nI p)) 518 0 ((x_up I 517 0 (nI p)) 517 0)) = I1 at s1 e1 e2 ⊢
  intro hgo
  have hT1 : cT I1 T len := hT.sm s1 (by decide) (by decide)
  have ht1 : I1 514 0 = nI len := hT1.1
  refine hgo (fun h => ?_) (fun h => bX8_readToken_31 (K I1 s1 ⟨e1, ?_⟩))
  · rw [e1, ht1, nI_ltI (by omega) (by omega)] at h
    have hx := hT1.2.2 p h
    have hx1 : I1 576 p = nI (T p) := hx.1
    refine bX8_readToken_32 (by rw [e1]; exact vp_in_nI (by omega) (by decide)) ?_
    rw [e1, nI_clamp (by omega), hx1]
    refine c_rowOf (by omega) (bX8_readToken_44 ?_)
    rw [e2, nI_1]
    have hr3 := g_rw_lt (T p)
    have loop : ∀ f q I2, q + f = len → Sm [517, 518] I I2 → I2 517 0 = nI p → I2 518 0 = nI q → (g_rw (T p) = 0 → Q none I2 L) → (∀ I3, Sm [517, 518] I I3 → I3 517 0 = nI p → g_rw (T p) ≠ 0 → I3 518 0 = nI (g_run T (g_rw (T p)) f q) → Q none I3 L) → XS mX8_readToken 55 [(0, .ref 8), (1, .int (nI (g_rw (T p))))] [] I2 L Q := by
      intro f
      induction f with
      | zero =>
        intro q I2 hq s2 a1 a2 K0 K1
        have ht2 : I2 514 0 = nI len := by rw [s2 514 (by decide)]; exact hT.1
        refine bX8_readToken_55 (fun h0 => bX8_readToken_99 (K0 ?_)) (fun h0 => bX8_readToken_59 (fun _ => bX8_readToken_99 (K1 I2 s2 a1 ?_ a2)) (fun h2 => ?_))
        · exact (i_eq _ 0 rfl rfl (by omega) (by decide)).mp h0
        · exact fun z => h0 (by rw [z]; rfl)
        · rw [ht2, a2, nI_leI (by omega) (by omega)] at h2; omega
      | succ f ih =>
        intro q I2 hq s2 a1 a2 K0 K1
        have hT2 : cT I2 T len := hT.sm s2 (by decide) (by decide)
        have ht2 : I2 514 0 = nI len := hT2.1
        have hy := hT2.2.2 q (by omega)
        have hy1 : I2 576 q = nI (T q) := hy.1
        have e : g_run T (g_rw (T p)) (f + 1) q = if g_rw (T q) = g_rw (T p) then g_run T (g_rw (T p)) f (q + 1) else q := rfl
        have hrq := g_rw_lt (T q)
        refine bX8_readToken_55 (fun h0 => bX8_readToken_99 (K0 ?_)) (fun h0 => bX8_readToken_59 (fun h2 => ?_) (fun _ => bX8_readToken_70 (by rw [a2]; exact vp_in_nI (by omega) (by decide)) ?_))
        · exact (i_eq _ 0 rfl rfl (by omega) (by decide)).mp h0
        · rw [ht2, a2, nI_leI (by omega) (by omega)] at h2; omega
        · have hne : g_rw (T p) ≠ 0 := fun z => h0 (by rw [z]; rfl)
          rw [a2, nI_clamp (by omega), hy1]
          refine c_rowOf (by omega) (bX8_readToken_82 (fun h3 => bX8_readToken_99 (K1 I2 s2 a1 hne ?_)) (fun h3 => bX8_readToken_86 ?_))
          · rw [nI_eq (by omega) (by omega)] at h3
            rw [e, if_neg h3]; exact a2
          · rw [nI_eq (by omega) (by omega)] at h3
            rw [a2, nI_1]
            refine ih (q + 1) _ (by omega) (s2.up (by decide)) (by rw [x_up_ne (by decide)]; exact a1) (by rw [x_up_at]) (fun z => absurd z hne) (fun I3 s3 b1 b2 b3 => K1 I3 s3 b1 b2 ?_)
            rw [e, if_pos h3]; exact b3
    refine loop (len - (p + 1)) (p + 1) _ (by omega) (s1.up (by decide)) (by rw [x_up_ne (by decide)]; exact e1) (by rw [x_up_at]) (fun h0 => K _ (s1.up (by decide)) ⟨?_, ?_⟩) (fun I3 s3 b1 b2 b3 => K I3 s3 ⟨b1, ?_⟩)
    · rw [x_up_ne (by decide)]; exact e1
    · unfold g_tend
      rw [if_neg (by omega), if_pos h0, x_up_at]
    · unfold g_tend
      rw [if_neg (by omega), if_neg b2]
      exact b3
  · rw [e1, ht1, nI_ltI (by omega) (by omega)] at h
    unfold g_tend
    rw [if_pos (by omega)]
    exact e2
