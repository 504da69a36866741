/-! ===== runs in the world behind the constructor, with the script ===== -/
abbrev XT (u : Nat × Nat) (Ln : Nat) (xs : Nat → Int32) (m : x_Mth) (pc : Nat) (ls : List (Nat × Value)) (st : List Value) (I : Nat → Nat → Int32) (L : Nat → Int64) (Q : Option Value → (Nat → Nat → Int32) → (Nat → Int64) → Prop) : Prop := X (some (Ln, xs)) m u pc ls st (x_SH, I, L, x_RF) (x_Q Q)
theorem xt_mono {u : Nat × Nat} {Ln : Nat} {xs : Nat → Int32} {m : x_Mth} {pc : Nat} {ls : List (Nat × Value)} {st : List Value} {I : Nat → Nat → Int32} {L : Nat → Int64} {Q : Option Value → (Nat → Nat → Int32) → (Nat → Int64) → Prop} {Q' : Option Value → (Nat → Nat → Int32) → (Nat → Int64) → Prop} (h : XT u Ln xs m pc ls st I L Q) (hq : ∀ r I' L', Q r I' L' → Q' r I' L') : XT u Ln xs m pc ls st I L Q' :=
  x_mono h (fun r M' q => ⟨q.1, q.2.1, hq _ _ _ q.2.2⟩)
theorem xt_iald {u : Nat × Nat} {Ln : Nat} {xs : Nat → Int32} {m : x_Mth} {pc : Nat} {ls : List (Nat × Value)} {st : List Value} {I : Nat → Nat → Int32} {L : Nat → Int64} {Q : Option Value → (Nat → Nat → Int32) → (Nat → Int64) → Prop} {o n : Nat} {i : Int32} (r k : Nat) (hd : decode (x_code m) pc = .ok (.iaload, 1)) (ho : x_SH[o]? = some (1, n)) (hr : 64 * o = r) (hk : i.toNatClampNeg = k) (hin : vp_in i n)
    (K : XT u Ln xs m (pc + 1) ls (.int (I r k) :: st) I L Q) : XT u Ln xs m pc ls (.int i :: .ref o :: st) I L Q := by
  subst hr; subst hk
  exact x_iald hd ho hin K
theorem xt_iast {u : Nat × Nat} {Ln : Nat} {xs : Nat → Int32} {m : x_Mth} {pc : Nat} {ls : List (Nat × Value)} {st : List Value} {I : Nat → Nat → Int32} {L : Nat → Int64} {Q : Option Value → (Nat → Nat → Int32) → (Nat → Int64) → Prop} {o n : Nat} {i x : Int32} (r k : Nat) (hd : decode (x_code m) pc = .ok (.iastore, 1)) (ho : x_SH[o]? = some (1, n)) (hr : 64 * o = r) (hk : i.toNatClampNeg = k) (hin : vp_in i n)
    (K : XT u Ln xs m (pc + 1) ls st (x_up I r k x) L Q) : XT u Ln xs m pc ls (.int x :: .int i :: .ref o :: st) I L Q := by
  subst hr; subst hk
  exact x_iast hd ho hin K
theorem xt_callQ {u : Nat × Nat} {Ln : Nat} {xs : Nat → Int32} {m m' : x_Mth} {pc : Nat} {ls args : List (Nat × Value)} {rest : List Value} {I : Nat → Nat → Int32} {L : Nat → Int64} {Q : Option Value → (Nat → Nat → Int32) → (Nat → Int64) → Prop} (h0 : x_mc m' = 0 ∧ x_ms m' = 0) (K : XS m' 0 args [] I L (fun r I' L' => XT u Ln xs m (pc + 3) ls (r.toList ++ rest) I' L' Q)) :
    X none m' (0, 0) 0 args [] (x_SH, I, L, x_RF) (fun r M' => X (some (Ln, xs)) m (u.1 + x_mc m', u.2 + x_ms m') (pc + 3) ls (r.toList ++ rest) M' (x_Q Q)) := by
  refine x_mono K ?_
  rintro r ⟨a, I', L', R'⟩ ⟨h1, h2, h⟩
  dsimp only at h1 h2
  subst h1; subst h2
  rw [h0.1, h0.2]
  exact h
theorem xt_callQS {u : Nat × Nat} {Ln : Nat} {xs : Nat → Int32} {m m' : x_Mth} {pc : Nat} {ls args : List (Nat × Value)} {rest : List Value} {I : Nat → Nat → Int32} {L : Nat → Int64} {Q : Option Value → (Nat → Nat → Int32) → (Nat → Int64) → Prop} (h0 : x_mc m' = 0 ∧ x_ms m' = 0) (K : XT (0, 0) Ln xs m' 0 args [] I L (fun r I' L' => XT u Ln xs m (pc + 3) ls (r.toList ++ rest) I' L' Q)) :
    X (some (Ln, xs)) m' (0, 0) 0 args [] (x_SH, I, L, x_RF) (fun r M' => X (some (Ln, xs)) m (u.1 + x_mc m', u.2 + x_ms m') (pc + 3) ls (r.toList ++ rest) M' (x_Q Q)) := by
  refine x_mono K ?_
  rintro r ⟨a, I', L', R'⟩ ⟨h1, h2, h⟩
  dsimp only at h1 h2
  subst h1; subst h2
  rw [h0.1, h0.2]
  exact h
theorem xt_callV {u : Nat × Nat} {Ln : Nat} {xs : Nat → Int32} {m : x_Mth} {pc : Nat} {ls : List (Nat × Value)} {I : Nat → Nat → Int32} {L : Nat → Int64} {Q : Option Value → (Nat → Nat → Int32) → (Nat → Int64) → Prop} {idx : Nat} (m' : x_Mth) (As rest : List Value) (b ci n : Nat) (st : List Value) (hst : st = As.reverse ++ .ref b :: rest) (hd : decode (x_code m) pc = .ok (.invokevirtual idx, 3)) (hl : Cond.methodLink (x_own m) idx (x_y m') ∈ x_GW) (hm : x_MV m' n) (hn : As.length = n)
    (hR : x_fr m' + 1 ≤ x_fr m ∧ 8 + (x_maxL m' + 11) + x_lo m' ≤ x_lo m) (hu : u.1 ≤ x_mc m ∧ u.2 ≤ x_ms m) (h0 : x_mc m' = 0 ∧ x_ms m' = 0) (hw : x_cat rest ≤ 8) (ho : x_SH[b]? = some (0, ci)) (hci : ci < 10) (hcl : (x_y m').cls = x_R ci) (hlen : (lg_sl (.ref b :: As)).length ≤ x_maxL m')
    (K : XS m' 0 (lv_args 0 (.ref b :: As)) [] I L (fun r I' L' => XT u Ln xs m (pc + 3) ls (r.toList ++ rest) I' L' Q)) : XT u Ln xs m pc ls st I L Q :=
  x_callV m' As rest b ci n st hst hd hl hm hn hR ⟨by rw [h0.1]; exact hu.1, by rw [h0.2]; exact hu.2⟩ hw ho hci hcl hlen (Or.inl h0.1) (xt_callQ h0 K)
theorem xt_callS {u : Nat × Nat} {Ln : Nat} {xs : Nat → Int32} {m : x_Mth} {pc : Nat} {ls : List (Nat × Value)} {I : Nat → Nat → Int32} {L : Nat → Int64} {Q : Option Value → (Nat → Nat → Int32) → (Nat → Int64) → Prop} {idx : Nat} (m' : x_Mth) (As rest : List Value) (n : Nat) (st : List Value) (hst : st = As.reverse ++ rest) (hd : decode (x_code m) pc = .ok (.invokestatic idx, 3)) (hl : Cond.methodLink (x_own m) idx (x_y m') ∈ x_GW) (hm : x_MS m' n) (hn : As.length = n)
    (hR : x_fr m' + 1 ≤ x_fr m ∧ 8 + (x_maxL m' + 11) + x_lo m' ≤ x_lo m) (hu : u.1 ≤ x_mc m ∧ u.2 ≤ x_ms m) (h0 : x_mc m' = 0 ∧ x_ms m' = 0) (hw : x_cat rest ≤ 8) (hlen : (lg_sl As).length ≤ x_maxL m')
    (K : XS m' 0 (lv_args 0 As) [] I L (fun r I' L' => XT u Ln xs m (pc + 3) ls (r.toList ++ rest) I' L' Q)) : XT u Ln xs m pc ls st I L Q :=
  x_callS m' As rest n st hst hd hl hm hn hR ⟨by rw [h0.1]; exact hu.1, by rw [h0.2]; exact hu.2⟩ hw hlen (Or.inl h0.1) (xt_callQ h0 K)
theorem xt_callSS {u : Nat × Nat} {Ln : Nat} {xs : Nat → Int32} {m : x_Mth} {pc : Nat} {ls : List (Nat × Value)} {I : Nat → Nat → Int32} {L : Nat → Int64} {Q : Option Value → (Nat → Nat → Int32) → (Nat → Int64) → Prop} {idx : Nat} (m' : x_Mth) (As rest : List Value) (n : Nat) (st : List Value) (hst : st = As.reverse ++ rest) (hd : decode (x_code m) pc = .ok (.invokestatic idx, 3)) (hl : Cond.methodLink (x_own m) idx (x_y m') ∈ x_GW) (hm : x_MS m' n) (hn : As.length = n)
    (hR : x_fr m' + 1 ≤ x_fr m ∧ 8 + (x_maxL m' + 11) + x_lo m' ≤ x_lo m) (hu : u.1 ≤ x_mc m ∧ u.2 ≤ x_ms m) (h0 : x_mc m' = 0 ∧ x_ms m' = 0) (hw : x_cat rest ≤ 8) (hlen : (lg_sl As).length ≤ x_maxL m')
    (K : XT (0, 0) Ln xs m' 0 (lv_args 0 As) [] I L (fun r I' L' => XT u Ln xs m (pc + 3) ls (r.toList ++ rest) I' L' Q)) : XT u Ln xs m pc ls st I L Q :=
  x_callSS m' As rest n st hst hd hl hm hn hR ⟨by rw [h0.1]; exact hu.1, by rw [h0.2]; exact hu.2⟩ hw hlen (Or.inl h0.1) (xt_callQS h0 K)
theorem xt_iret {u : Nat × Nat} {Ln : Nat} {xs : Nat → Int32} {m : x_Mth} {pc : Nat} {ls : List (Nat × Value)} {I : Nat → Nat → Int32} {L : Nat → Int64} {Q : Option Value → (Nat → Nat → Int32) → (Nat → Int64) → Prop} {v : Int32} {ty : FieldType} (hd : decode (x_code m) pc = .ok (.ireturn, 1)) (hr : x_ret m = some ty) (hn : narrow ty (.int v) = .int v) (K : Q (some (.int v)) I L) : XT u Ln xs m pc ls [.int v] I L Q := x_iret (st := []) hd hr hn ⟨rfl, rfl, K⟩
