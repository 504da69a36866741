/-! ===== a net told in a text: how it is read ===== -/
theorem t_at {pre s : List Nat} (r : Nat) : (pre ++ s).getD (pre.length + r) 0 = s.getD r 0 := by
  simp only [List.getD]
  rw [List.getElem?_append_right (by omega), show pre.length + r - pre.length = r by omega]
theorem g_P0 {T : Nat → Nat} {len i : Nat} (h : i < len) (hT : T i ≠ 32) : g_P T len i = i := by
  unfold g_P g_skip
  obtain ⟨f, hf⟩ : ∃ f, len - i = f + 1 := ⟨len - i - 1, by omega⟩
  rw [hf]
  show (if T i = 32 then g_sb T f (i + 1) else i) = i
  rw [if_neg hT]
theorem g_P1 {T : Nat → Nat} {len i : Nat} (h : i < len) (hT : T i = 32) : g_P T len i = g_P T len (i + 1) := by
  unfold g_P g_skip
  obtain ⟨f, hf⟩ : ∃ f, len - i = f + 1 := ⟨len - i - 1, by omega⟩
  rw [hf, show len - (i + 1) = f by omega]
  show (if T i = 32 then g_sb T f (i + 1) else i) = _
  rw [if_pos hT]
theorem g_Pend {T : Nat → Nat} {len : Nat} : g_P T len len = len := by
  unfold g_P g_skip
  rw [Nat.sub_self]
  rfl
theorem g_run_y {T : Nat → Nat} {r f q : Nat} (h : g_rw (T q) = r) : g_run T r (f + 1) q = g_run T r f (q + 1) := by
  show (if g_rw (T q) = r then g_run T r f (q + 1) else q) = _
  rw [if_pos h]
theorem g_run_n {T : Nat → Nat} {r f q : Nat} (h : g_rw (T q) ≠ r) : g_run T r (f + 1) q = q := by
  show (if g_rw (T q) = r then g_run T r f (q + 1) else q) = _
  rw [if_neg h]
theorem g_rw_d {x : Nat} (h : x ≤ 9) : g_rw (48 + x) = 2 := by
  unfold g_rw
  rw [if_neg (by omega), if_pos (by omega)]
theorem g_Zd {T : Nat → Nat} {len i p x : Nat} (h : g_P T len i = p) (hp : p < len) (hT : T p = 48 + x) (hx : x ≤ 9) (hn : p + 1 = len ∨ (p + 1 < len ∧ g_rw (T (p + 1)) ≠ 2)) : g_Z T len i = p + 1 := by
  have hd : g_rw (T p) = 2 := by rw [hT]; exact g_rw_d hx
  unfold g_Z
  rw [show g_skip T len i = p from h]
  unfold g_tend
  rw [if_neg (by omega), if_neg (by rw [hd]; decide), hd]
  rcases hn with e | ⟨e1, e2⟩
  · rw [show len - (p + 1) = 0 by omega]; rfl
  · obtain ⟨f, hf⟩ : ∃ f, len - (p + 1) = f + 1 := ⟨len - (p + 1) - 1, by omega⟩
    rw [hf]
    exact g_run_n e2
theorem g_nud {T : Nat → Nat} {len i p x a b : Nat} (h : g_P T len i = p) (hZ : g_Z T len i = p + 1) (hT : T p = 48 + x) (ha : a ≤ x) (hb : x ≤ b) : g_nu T len i a b = some x := by
  unfold g_nu g_num
  rw [h, hZ, hT, if_pos ⟨rfl, by omega, by omega⟩, show 48 + x - 48 = x by omega]
theorem g_cl_link {T : Nat → Nat} {len N i u v c d : Nat} {E : List (Nat × Nat)} (hlen : i + 11 ≤ len) (h0 : T i = 108) (h1 : T (i + 1) = 105) (h2 : T (i + 2) = 110) (h3 : T (i + 3) = 107) (h4 : T (i + 4) = 48 + u) (h5 : T (i + 5) = 32) (h6 : T (i + 6) = 48 + v) (h7 : T (i + 7) = 32) (h8 : T (i + 8) = 48 + c) (h9 : T (i + 9) = 32) (h10 : T (i + 10) = 48 + d) (h11 : i + 11 = len ∨ (i + 11 < len ∧ T (i + 11) = 59)) (hu : u < N) (hv : v < N) (hN : N ≤ 8) (huv : u ≠ v) (hc : 1 ≤ c ∧ c ≤ 9) (hd : 1 ≤ d ∧ d ≤ 9) (hE : E.length < 14) : g_cl T len N E i = .inr (.inr (u, v, c, d), i + 11) := by
  have P0 : g_P T len i = i := g_P0 (by omega) (by rw [h0]; decide)
  have Z0 : g_Z T len i = i + 4 := by
    unfold g_Z
    rw [show g_skip T len i = i from P0]
    unfold g_tend
    rw [if_neg (by omega), h0, if_neg (by decide)]
    obtain ⟨f, hf⟩ : ∃ f, len - (i + 1) = f + 1 + 1 + 1 + 1 := ⟨len - i - 5, by omega⟩
    rw [hf, show g_rw 108 = 1 from rfl, g_run_y (by rw [h1]; rfl), g_run_y (by rw [show i + 1 + 1 = i + 2 by omega, h2]; rfl), g_run_y (by rw [show i + 1 + 1 + 1 = i + 3 by omega, h3]; rfl), g_run_n (by rw [show i + 1 + 1 + 1 + 1 = i + 4 by omega, h4, g_rw_d (by omega)]; decide)]
  have P1 : g_P T len (i + 4) = i + 4 := g_P0 (by omega) (by rw [h4]; omega)
  have Z1 : g_Z T len (i + 4) = i + 5 := g_Zd P1 (by omega) h4 (by omega) (Or.inr ⟨by omega, by rw [show i + 4 + 1 = i + 5 by omega, h5]; decide⟩)
  have P2 : g_P T len (i + 5) = i + 6 := by rw [g_P1 (by omega) h5]; exact g_P0 (by omega) (by rw [show i + 5 + 1 = i + 6 by omega, h6]; omega)
  have Z2 : g_Z T len (i + 5) = i + 7 := g_Zd P2 (by omega) h6 (by omega) (Or.inr ⟨by omega, by rw [show i + 6 + 1 = i + 7 by omega, h7]; decide⟩)
  have P3 : g_P T len (i + 7) = i + 8 := by rw [g_P1 (by omega) h7]; exact g_P0 (by omega) (by rw [show i + 7 + 1 = i + 8 by omega, h8]; omega)
  have Z3 : g_Z T len (i + 7) = i + 9 := g_Zd P3 (by omega) h8 (by omega) (Or.inr ⟨by omega, by rw [show i + 8 + 1 = i + 9 by omega, h9]; decide⟩)
  have P4 : g_P T len (i + 9) = i + 10 := by rw [g_P1 (by omega) h9]; exact g_P0 (by omega) (by rw [show i + 9 + 1 = i + 10 by omega, h10]; omega)
  have Z4 : g_Z T len (i + 9) = i + 11 := g_Zd P4 (by omega) h10 (by omega) (h11.elim (fun e => Or.inl (by omega)) (fun e => Or.inr ⟨by omega, by rw [show i + 10 + 1 = i + 11 by omega, e.2]; decide⟩))
  have n1 : g_nu T len (i + 4) 0 (N - 1) = some u := g_nud P1 Z1 h4 (by omega) (by omega)
  have n2 : g_nu T len (i + 5) 0 (N - 1) = some v := g_nud P2 Z2 h6 (by omega) (by omega)
  have n3 : g_nu T len (i + 7) 1 9 = some c := g_nud P3 Z3 h8 hc.1 hc.2
  have n4 : g_nu T len (i + 9) 1 9 = some d := g_nud P4 Z4 h10 hd.1 hd.2
  unfold g_cl
  rw [P0, Z0]
  have w0 : g_isw T i (i + 4) 0 = false := decide_eq_false (fun z => by have := z.1; have e : wl 0 = 5 := rfl; omega)
  have w1 : g_isw T i (i + 4) 1 = true := decide_eq_true ⟨rfl, fun j hj => by
    have hj' : j < 4 := hj
    rcases (show j = 0 ∨ j = 1 ∨ j = 2 ∨ j = 3 by omega) with rfl | rfl | rfl | rfl
    · exact h0
    · exact h1
    · exact h2
    · exact h3⟩
  rw [if_neg (by rw [w0]; simp), if_pos w1]
  unfold g_cll
  rw [n1]
  dsimp only
  unfold g_cl2
  rw [Z1, n2]
  dsimp only
  rw [if_neg (show ¬ (v = u ∨ (g_pr u v ∉ E ∧ 14 ≤ E.length)) from fun z => z.elim (fun e => huv e.symm) (fun e => by have := e.2; omega))]
  unfold g_cl3
  rw [Z2, n3]
  dsimp only
  unfold g_cl4
  rw [Z3, n4, Z4]
theorem g_cl_nodes {T : Nat → Nat} {len N n : Nat} {E : List (Nat × Nat)} (hlen : 8 ≤ len) (h0 : T 0 = 110) (h1 : T 1 = 111) (h2 : T 2 = 100) (h3 : T 3 = 101) (h4 : T 4 = 115) (h5 : T 5 = 48 + n) (h6 : T 6 = 32) (hn : 2 ≤ n ∧ n ≤ 8) : g_cl T len N E 0 = .inr (.inl n, 6) := by
  have P0 : g_P T len 0 = 0 := g_P0 (by omega) (by rw [h0]; decide)
  have Z0 : g_Z T len 0 = 5 := by
    unfold g_Z
    rw [show g_skip T len 0 = 0 from P0]
    unfold g_tend
    rw [if_neg (by omega), h0, if_neg (by decide)]
    obtain ⟨f, hf⟩ : ∃ f, len - (0 + 1) = f + 1 + 1 + 1 + 1 + 1 := ⟨len - 6, by omega⟩
    rw [hf, show g_rw 110 = 1 from rfl, g_run_y (by rw [h1]; rfl), g_run_y (by rw [h2]; rfl), g_run_y (by rw [h3]; rfl), g_run_y (by rw [h4]; rfl), g_run_n (by rw [h5, g_rw_d (by omega)]; decide)]
  have P1 : g_P T len 5 = 5 := g_P0 (by omega) (by rw [h5]; omega)
  have Z1 : g_Z T len 5 = 6 := g_Zd P1 (by omega) h5 (by omega) (Or.inr ⟨by omega, by rw [h6]; decide⟩)
  have n1 : g_nu T len 5 2 8 = some n := g_nud P1 Z1 h5 hn.1 hn.2
  unfold g_cl
  rw [P0, Z0]
  have w0 : g_isw T 0 5 0 = true := decide_eq_true ⟨rfl, fun j hj => by
    have hj' : j < 5 := hj
    rcases (show j = 0 ∨ j = 1 ∨ j = 2 ∨ j = 3 ∨ j = 4 by omega) with rfl | rfl | rfl | rfl | rfl
    · exact h0
    · exact h1
    · exact h2
    · exact h3
    · exact h4⟩
  rw [if_pos w0]
  unfold g_cln
  rw [n1, Z1]
abbrev q_4 : Type := Nat × Nat × Nat × Nat
def q_enc (q : q_4) : List Nat := [59, 108, 105, 110, 107, 48 + q.1, 32, 48 + q.2.1, 32, 48 + q.2.2.1, 32, 48 + q.2.2.2]
def q_bod : List q_4 → List Nat
  | [] => []
  | q :: B => q_enc q ++ q_bod B
def q_hd (n : Nat) : List Nat := [110, 111, 100, 101, 115, 48 + n, 32, 32]
def q_ok (n : Nat) (q : q_4) : Prop := q.1 < n ∧ q.2.1 < n ∧ q.1 ≠ q.2.1 ∧ (1 ≤ q.2.2.1 ∧ q.2.2.1 ≤ 9) ∧ 1 ≤ q.2.2.2 ∧ q.2.2.2 ≤ 9
theorem q_bod_len : ∀ B : List q_4, (q_bod B).length = 12 * B.length
  | [] => rfl
  | q :: B => by
    show (q_enc q ++ q_bod B).length = 12 * (B.length + 1)
    rw [List.length_append, q_bod_len B]
    show 12 + 12 * B.length = _
    omega
theorem q_bod_snoc : ∀ (B : List q_4) (q : q_4), q_bod (B ++ [q]) = q_bod B ++ q_enc q
  | [], q => by show q_enc q ++ [] = [] ++ q_enc q; simp
  | p :: B, q => by
    show q_enc p ++ q_bod (B ++ [q]) = (q_enc p ++ q_bod B) ++ q_enc q
    rw [q_bod_snoc B q, List.append_assoc]
theorem q_bod_0 (B : List q_4) : (q_bod B).length = 0 ∨ (0 < (q_bod B).length ∧ (q_bod B).getD 0 0 = 59) := by
  cases B with
  | nil => exact Or.inl rfl
  | cons q B => exact Or.inr ⟨by rw [q_bod_len]; simp, rfl⟩
theorem q_ad_len {E : List (Nat × Nat)} {p : Nat × Nat} : (g_ad E p).length ≤ E.length + 1 := by
  unfold g_ad
  split
  · omega
  · simp
theorem g_ps_links {N : Nat} (hN : N ≤ 8) : ∀ (B : List q_4) (q : q_4) (pre : List Nat) (k : Nat) (E : List (Nat × Nat)), (∀ p, p ∈ q :: B → q_ok N p) → B.length ≤ k → E.length + B.length < 14 →
    g_ps (qTf (pre ++ q_bod (q :: B))) (pre ++ q_bod (q :: B)).length (k + 1) N E (pre.length + 1) = (none, (q :: B).map .inr) := by
  intro B
  induction B with
  | nil =>
    intro q pre k E hq hk hE
    obtain ⟨u, v, c, d⟩ := q
    obtain ⟨a1, a2, a3, a4, a5⟩ := hq (u, v, c, d) List.mem_cons_self
    have hlen : (pre ++ q_bod [(u, v, c, d)]).length = pre.length + 12 := by rw [List.length_append, q_bod_len]; rfl
    have at_ : ∀ r, qTf (pre ++ q_bod [(u, v, c, d)]) (pre.length + 1 + r) = (q_bod [(u, v, c, d)]).getD (1 + r) 0 := fun r => by
      show (pre ++ q_bod [(u, v, c, d)]).getD (pre.length + 1 + r) 0 = _
      rw [show pre.length + 1 + r = pre.length + (1 + r) by omega, t_at]
    rw [hlen]
    generalize qTf (pre ++ q_bod [(u, v, c, d)]) = T at at_
    have e := g_cl_link (T := T) (len := pre.length + 12) (N := N) (i := pre.length + 1) (E := E) (by omega) (at_ 0) (at_ 1) (at_ 2) (at_ 3) (at_ 4) (at_ 5) (at_ 6) (at_ 7) (at_ 8) (at_ 9) (at_ 10) (Or.inl (by omega)) a1 a2 hN a3 a4 a5 (by omega)
    unfold g_ps
    rw [e]
    dsimp only
    rw [show pre.length + 1 + 11 = pre.length + 12 by omega, g_Pend, if_pos (Nat.le_refl _)]
    rfl
  | cons q' B ih =>
    intro q pre k E hq hk hE
    rw [List.length_cons] at hk hE
    obtain ⟨k, rfl⟩ : ∃ k', k = k' + 1 := ⟨k - 1, by omega⟩
    have hI := ih q' (pre ++ q_enc q) k (g_nxE E (.inr q)) (fun p hp => hq p (List.mem_cons_of_mem _ hp)) (by omega) (by
      have : (g_nxE E (.inr q)).length ≤ E.length + 1 := by obtain ⟨u, v, c, d⟩ := q; exact q_ad_len
      omega)
    have et : (pre ++ q_enc q) ++ q_bod (q' :: B) = pre ++ q_bod (q :: q' :: B) := by
      show _ = pre ++ (q_enc q ++ q_bod (q' :: B))
      rw [List.append_assoc]
    rw [et, show (pre ++ q_enc q).length = pre.length + 12 by rw [List.length_append]; rfl] at hI
    obtain ⟨u, v, c, d⟩ := q
    obtain ⟨a1, a2, a3, a4, a5⟩ := hq (u, v, c, d) List.mem_cons_self
    have hlen : (pre ++ q_bod ((u, v, c, d) :: q' :: B)).length = pre.length + 24 + 12 * B.length := by rw [List.length_append, q_bod_len, List.length_cons, List.length_cons]; omega
    have at_ : ∀ r, qTf (pre ++ q_bod ((u, v, c, d) :: q' :: B)) (pre.length + 1 + r) = (q_bod ((u, v, c, d) :: q' :: B)).getD (1 + r) 0 := fun r => by
      show (pre ++ q_bod ((u, v, c, d) :: q' :: B)).getD (pre.length + 1 + r) 0 = _
      rw [show pre.length + 1 + r = pre.length + (1 + r) by omega, t_at]
    rw [hlen] at hI ⊢
    generalize qTf (pre ++ q_bod ((u, v, c, d) :: q' :: B)) = T at at_ hI
    have hT12 : T (pre.length + 12) = 59 := by have := at_ 11; rw [show pre.length + 1 + 11 = pre.length + 12 by omega] at this; exact this
    have e := g_cl_link (T := T) (len := pre.length + 24 + 12 * B.length) (N := N) (i := pre.length + 1) (E := E) (by omega) (at_ 0) (at_ 1) (at_ 2) (at_ 3) (at_ 4) (at_ 5) (at_ 6) (at_ 7) (at_ 8) (at_ 9) (at_ 10) (Or.inr ⟨by omega, at_ 11⟩) a1 a2 hN a3 a4 a5 (by omega)
    unfold g_ps
    rw [e]
    dsimp only
    rw [show pre.length + 1 + 11 = pre.length + 12 by omega, g_P0 (by omega) (by rw [hT12]; decide), if_neg (by omega), if_pos ⟨hT12, by omega⟩]
    rw [show g_nxN N (.inr (u, v, c, d)) = N from rfl, hI]
    rfl
def q_txt (n : Nat) (B : List q_4) : List Nat := q_hd n ++ q_bod B
theorem q_txt_len (n : Nat) (B : List q_4) : (q_txt n B).length = 8 + 12 * B.length := by
  unfold q_txt
  rw [List.length_append, q_bod_len]
  rfl
theorem oFt_txt {σ : g_St} {n : Nat} {B : List q_4} (hn : 2 ≤ n ∧ n ≤ 8) (hB : ∀ p, p ∈ B → q_ok n p) (hl : B.length ≤ 14) : oFt σ (q_txt n B) = (none, .inl n :: B.map .inr) := by
  unfold oFt
  generalize g_El σ.2.1 σ.2.2.1 σ.2.2.2.1 = E
  generalize σ.1 = N
  have e0 : ∀ r, r < 8 → qTf (q_txt n B) r = (q_hd n).getD r 0 := fun r hr => by
    show (q_hd n ++ q_bod B).getD r 0 = _
    simp only [List.getD]
    rw [List.getElem?_append_left (by exact hr)]
  have hcl := g_cl_nodes (T := qTf (q_txt n B)) (len := (q_txt n B).length) (N := N) (n := n) (E := E) (by rw [q_txt_len]; omega) (e0 0 (by decide)) (e0 1 (by decide)) (e0 2 (by decide)) (e0 3 (by decide)) (e0 4 (by decide)) (e0 5 (by decide)) (e0 6 (by decide)) hn
  have h6 : qTf (q_txt n B) 6 = 32 := e0 6 (by decide)
  have h7 : qTf (q_txt n B) 7 = 32 := e0 7 (by decide)
  have hlen := q_txt_len n B
  have step : g_P (qTf (q_txt n B)) (q_txt n B).length 6 = g_P (qTf (q_txt n B)) (q_txt n B).length 8 := by
    rw [g_P1 (by omega) h6, g_P1 (by omega) h7]
  cases B with
  | nil =>
    have : (q_txt n []).length = 8 := hlen
    show g_ps _ _ (23 + 1) N E 0 = _
    unfold g_ps
    rw [hcl]
    dsimp only
    rw [step, this, g_Pend, if_pos (Nat.le_refl _)]
    rfl
  | cons q B =>
    rw [List.length_cons] at hlen hl
    have h8 : qTf (q_txt n (q :: B)) 8 = 59 := by
      show (q_hd n ++ q_bod (q :: B)).getD ((q_hd n).length + 0) 0 = 59
      rw [t_at]
      rfl
    have hps := g_ps_links (N := n) hn.2 B q (q_hd n) 22 [] hB (by omega) (by simp; omega)
    show g_ps _ _ (23 + 1) N E 0 = _
    unfold g_ps
    rw [hcl]
    dsimp only
    rw [step, g_P0 (by omega) (by rw [h8]; decide), if_neg (by omega), if_pos ⟨h8, by decide⟩]
    have hps' : g_ps (qTf (q_txt n (q :: B))) (q_txt n (q :: B)).length 23 n [] 9 = (none, (q :: B).map .inr) := hps
    rw [show g_nxN N (.inl n) = n from rfl, show g_nxE E (.inl n) = [] from rfl, hps']
/-! ===== the net that such a text tells, and the law's own numbers ===== -/
def q_inv (τ : g_St) (G : Nat → Int32) : Prop := g_okS τ ∧ gR G τ.1 τ.2.1 τ.2.2.1 τ.2.2.2.1 ∧ (∀ i, τ.2.2.2.2.2.2.1.testBit i = decide (i < τ.2.1)) ∧ ∀ u, τ.2.2.2.2.2.2.2 u = τ.2.2.2.2.2.2.1
theorem q_clok {N : Nat} {q : q_4} (h : q_ok N q) : g_clok N (.inr q) := by
  obtain ⟨u, v, c, d⟩ := q
  obtain ⟨a1, a2, a3, a4, a5⟩ := h
  exact ⟨a1, a2, a3, a4.1, a4.2, a5.1, a5.2⟩
theorem g_ap_some {n ln : Nat} {lo hi c0 c1 : Nat → Nat} {U : Nat} {seen : Nat → Nat} {u v c d l : Nat} (hl : g_lk ln lo hi u v = some l) : g_ap (n, ln, lo, hi, c0, c1, U, seen) (.inr (u, v, c, d)) = (n, ln, lo, hi, g_set c0 l c, g_set c1 l d, U, seen) := by
  unfold g_ap; dsimp only; rw [hl]
theorem g_ap_none {n ln : Nat} {lo hi c0 c1 : Nat → Nat} {U : Nat} {seen : Nat → Nat} {u v c d : Nat} (hl : g_lk ln lo hi u v = none) : g_ap (n, ln, lo, hi, c0, c1, U, seen) (.inr (u, v, c, d)) = (n, ln + 1, g_set lo ln (min u v), g_set hi ln (max u v), g_set c0 ln c, g_set c1 ln d, U ||| 2 ^ ln, fun w => seen w ||| 2 ^ ln) := by
  unfold g_ap; dsimp only; rw [hl]
theorem q_inv_ok {τ : g_St} {G : Nat → Int32} {q : q_4} (h : q_inv τ G) (hq : q_ok τ.1 q) (hl : τ.2.1 < 14) : g_okS (g_ap τ (.inr q)) := by
  refine (g_ap_ok h.1 (q_clok hq) ?_).1
  have : (g_nxE (g_El τ.2.1 τ.2.2.1 τ.2.2.2.1) (.inr q)).length ≤ (g_El τ.2.1 τ.2.2.1 τ.2.2.2.1).length + 1 := by obtain ⟨u, v, c, d⟩ := q; exact q_ad_len
  rw [g_El_len] at this
  omega
theorem q_inv_some {τ : g_St} {G G' : Nat → Int32} {u v c d l : Nat} (h : q_inv τ G) (hq : q_ok τ.1 (u, v, c, d)) (hl14 : τ.2.1 < 14) (hl : g_lk τ.2.1 τ.2.2.1 τ.2.2.2.1 u v = some l) (hG : ∀ j, j ≠ 4 + 4 * l → j ≠ 5 + 4 * l → G' j = G j) : q_inv (g_ap τ (.inr (u, v, c, d))) G' ∧ (g_ap τ (.inr (u, v, c, d))).1 = τ.1 ∧ (g_ap τ (.inr (u, v, c, d))).2.1 = τ.2.1 := by
  have hok := q_inv_ok h hq hl14
  obtain ⟨n, ln, lo, hi, c0, c1, U, seen⟩ := τ
  obtain ⟨h1, ⟨g1, g2, g3⟩, h3, h4⟩ := h
  rw [g_ap_some hl] at hok ⊢
  refine ⟨⟨hok, ⟨?_, ?_, fun j hj => ?_⟩, h3, h4⟩, rfl, rfl⟩
  · rw [hG 0 (by omega) (by omega)]; exact g1
  · rw [hG 1 (by omega) (by omega)]; exact g2
  · rw [hG (2 + 4 * j) (by omega) (by omega), hG (3 + 4 * j) (by omega) (by omega)]; exact g3 j hj
theorem q_inv_none {τ : g_St} {G G' : Nat → Int32} {u v c d : Nat} (h : q_inv τ G) (hq : q_ok τ.1 (u, v, c, d)) (hl14 : τ.2.1 < 14) (hl : g_lk τ.2.1 τ.2.2.1 τ.2.2.2.1 u v = none) (h1 : G' 1 = nI (τ.2.1 + 1)) (h2 : G' (2 + 4 * τ.2.1) = nI (min u v)) (h3 : G' (3 + 4 * τ.2.1) = nI (max u v)) (hG : ∀ j, j ≠ 1 → j < 2 + 4 * τ.2.1 → G' j = G j) : q_inv (g_ap τ (.inr (u, v, c, d))) G' ∧ (g_ap τ (.inr (u, v, c, d))).1 = τ.1 ∧ (g_ap τ (.inr (u, v, c, d))).2.1 = τ.2.1 + 1 := by
  have hok := q_inv_ok h hq hl14
  obtain ⟨n, ln, lo, hi, c0, c1, U, seen⟩ := τ
  obtain ⟨a1, ⟨g1, g2, g3⟩, a3, a4⟩ := h
  dsimp only at h1 h2 h3 hG g1 g2 g3 a3 a4
  rw [g_ap_none hl] at hok ⊢
  refine ⟨⟨hok, ⟨?_, h1, fun j hj => ?_⟩, fun i => ?_, fun w => ?_⟩, rfl, rfl⟩
  · show G' 0 = nI n
    rw [hG 0 (by omega) (by omega)]; exact g1
  · have hj' : j < ln + 1 := hj
    show G' (2 + 4 * j) = nI (g_set lo ln (min u v) j) ∧ G' (3 + 4 * j) = nI (g_set hi ln (max u v) j)
    by_cases e : j = ln
    · rw [e, g_set_at, g_set_at]; exact ⟨h2, h3⟩
    · rw [g_set_off e, g_set_off e, hG (2 + 4 * j) (by omega) (by omega), hG (3 + 4 * j) (by omega) (by omega)]; exact g3 j (by omega)
  · show (U ||| 2 ^ ln).testBit i = decide (i < ln + 1)
    rw [g_or_bit, a3 i]
    by_cases e : ln = i
    · subst e; simp
    · rw [decide_eq_false e, Bool.or_false]
      by_cases e2 : i < ln
      · rw [decide_eq_true e2, decide_eq_true (by omega)]
      · rw [decide_eq_false e2, decide_eq_false (by omega)]
  · show seen w ||| 2 ^ ln = U ||| 2 ^ ln
    rw [a4 w]
theorem g_cnt_lt_ {m : Nat} : ∀ n, g_cnt (fun i => decide (i < m)) n = min m n
  | 0 => by simp [g_cnt]
  | n + 1 => by
    simp only [g_cnt]
    rw [g_cnt_lt_ n]
    by_cases h : n < m
    · rw [if_pos (decide_eq_true h)]; omega
    · rw [if_neg (by simpa using h)]; omega
theorem q_inv_up {τ : g_St} {G : Nat → Int32} (h : q_inv τ G) : g_pc 32 τ.2.2.2.2.2.2.1 = τ.2.1 := by
  have hl := (g_okS_E h.1).2.2.1
  rw [g_pc_cnt, g_cnt_congr (q := fun i => decide (i < τ.2.1)) (fun i _ => h.2.2.1 i), g_cnt_lt_]
  omega
theorem g_bh_0 {n U : Nat} {seen : Nat → Nat} (h : ∀ u, u < n → seen u = U) : g_bh n U seen = 0 := by
  unfold g_bh
  exact g_mk_0.mpr (fun i hi => decide_eq_false (fun z => z (h i hi)))
