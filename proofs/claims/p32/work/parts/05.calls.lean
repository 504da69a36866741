/-! ===== new cells and calls ===== -/
def x_ne (n : Nat) : Value → Bool
  | .ref k => !(k == n)
  | _ => true
def x_rlt (n : Nat) : Value → Bool
  | .ref k => decide (k < n) || decide (1000000 ≤ k)
  | _ => true
theorem x_cv_up {al ae : Nat → Nat} {n q : Nat} {v : Value} (h : x_ne n v = true) : x_cv (x_ad (va_up al n q) ae) v = x_cv (x_ad al ae) v := by
  cases v with
  | ref k =>
    have hk : k ≠ n := by simpa [x_ne] using h
    simp [x_cv, x_ad, va_up, hk]
  | _ => rfl
theorem x_ent_ad {cI cZ : ClassId} {ad ad' : Nat → Nat} {M : x_M} {k : Nat} {q : Nat × Nat} (h : ∀ r j, M.2.2.2 r = some j → ad' j = ad j) : x_ent cI cZ ad' M.2 k q = x_ent cI cZ ad M.2 k q := by
  obtain ⟨a, b⟩ := q
  match a with
  | 0 =>
    simp only [x_ent]
    congr 2
    apply List.map_congr_left
    intro j _
    cases hty : x_ty b j <;> simp only [x_fa] <;> try rfl
    all_goals
      cases hR : M.2.2.2 (64 * k + j) with
      | none => rfl
      | some z => simp [x_cv, h _ _ hR]
  | 1 => rfl
  | n + 2 => rfl
theorem x_ws_push {cI cZ : ClassId} {al ae : Nat → Nat} {M : x_M} {q : Nat × Nat} {z : Nat} (hM : x_Ok M) : x_ws cI cZ (x_ad (va_up al M.1.length z) ae) (M.1 ++ [q], M.2) = x_ws cI cZ (x_ad al ae) M ++ [(z, x_ent cI cZ (x_ad (va_up al M.1.length z) ae) M.2 M.1.length q)] := by
  have hl := hM.1
  apply List.ext_getElem?
  intro i
  have e0 : (x_ws cI cZ (x_ad al ae) M).length = M.1.length := by simp [x_ws]
  by_cases h : i < M.1.length
  · rw [List.getElem?_append_left (by omega)]
    simp only [x_ws, List.getElem?_mapIdx]
    rw [List.getElem?_append_left h]
    cases hi : M.1[i]? with
    | none => rfl
    | some w =>
      have hi2 : i ≠ M.1.length := by omega
      simp only [Option.map_some]
      rw [x_ent_ad (ad := x_ad al ae) (M := M) (fun r j hr => by have := hM.2.1 r j hr; simp [x_ad, va_up, show j ≠ M.1.length by omega])]
      simp [x_ad, va_up, hi2]
  · rw [List.getElem?_append_right (by omega)]
    simp only [x_ws, List.getElem?_mapIdx, List.length_mapIdx]
    rw [List.getElem?_append_right (by omega)]
    by_cases h2 : i = M.1.length
    · subst h2
      simp [x_ad, va_up, hl]
    · have e1 : ¬ (i - M.1.length) < 1 := by omega
      rw [List.getElem?_eq_none (by simp; omega), List.getElem?_eq_none (by simp; omega)]
      rfl
theorem x_Ok_push {M : x_M} {q : Nat × Nat} (h : x_Ok M) (hl : M.1.length + 1 < 1000000) (hq : q.1 = 0 → q.2 < 10) : x_Ok (M.1 ++ [q], M.2) := by
  refine ⟨by simpa using hl, fun r k hr => ?_, fun r hr => h.2.2.1 r ?_, fun k c hk => ?_⟩
  · have := h.2.1 r k hr
    simp; omega
  · simp at hr; omega
  · by_cases hlt : k < M.1.length
    · rw [List.getElem?_append_left hlt] at hk
      exact h.2.2.2 k c hk
    · rw [List.getElem?_append_right (by omega)] at hk
      have hz := (List.getElem?_eq_some_iff.mp hk).1
      have : k - M.1.length = 0 := by simp at hz; omega
      rw [this] at hk
      simp at hk
      subst hk
      exact hq rfl
theorem x_map_up {al ae : Nat → Nat} {n q : Nat} {st : List Value} (h : st.all (x_ne n) = true) : st.map (x_cv (x_ad (va_up al n q) ae)) = st.map (x_cv (x_ad al ae)) :=
  List.map_congr_left fun v hv => x_cv_up (List.all_eq_true.mp h v hv)
theorem x_lp_up {al ae : Nat → Nat} {n q : Nat} {ls : List (Nat × Value)} (h : (ls.map (·.2)).all (x_ne n) = true) : x_lp (x_ad (va_up al n q) ae) ls = x_lp (x_ad al ae) ls :=
  List.map_congr_left fun v hv => by rw [x_cv_up (List.all_eq_true.mp h v.2 (List.mem_map_of_mem hv))]
def x_okty : FieldType → Bool
  | .float => false
  | .double => false
  | _ => true
theorem x_tyk : ∀ c, c < 10 → ∀ k, k < x_N c → x_okty (x_ty c k) = true := by decide +kernel
theorem x_new {scr : Option (Nat × (Nat → Int32))} {m : x_Mth} {u : Nat × Nat} {pc : Nat} {ls : List (Nat × Value)} {st : List Value} {M : x_M} {Q : Option Value → x_M → Prop} {idx : Nat} (ci : Nat) (n : Nat) (hd : decode (x_code m) pc = .ok (.new idx, 3)) (hci : ci < 10) (hw : Cond.classLink (x_own m) idx (x_R ci) ∈ x_GW) (hi : Cond.instantiable (x_R ci) (x_N ci) ∈ x_GW ∧ Cond.initialized (x_R ci) ∈ x_GW)
    (hn : M.1.length = n) (hc : u.1 + 1 ≤ x_mc m) (hs : u.2 + x_N ci ≤ x_ms m) (hlen : n + 1 < 1000000) (hst : st.all (x_ne n) = true) (hls : (ls.map (·.2)).all (x_ne n) = true)
    (K : X scr m (u.1 + 1, u.2 + x_N ci) (pc + 3) ls (.ref n :: st) (M.1 ++ [(0, ci)], M.2) Q) : X scr m u pc ls st M Q := by
  subst hn
  intro p l e s mi args below meth c D cI cZ A ae al H locs lx Z C R hl hret h1 h2
  obtain ⟨hx, hb, hml, hr, hlk, hown, hnm, hts, hK, hA, hE, hsc⟩ := id C
  obtain ⟨hP, hD, hS, hM⟩ := R
  refine va_new (C := x_R ci) (T := x_T ci) (N := x_N ci) (ci := ci) (own := x_own m) (fs := (List.range (x_N ci)).map fun j => x_fa (x_ty ci j) M.2 (64 * M.1.length + j)) hx hb hts (x_uw ci hci) (x_ty ci) (x_tyok ci hci) hown (hts _ hw) (hts _ hi.1) (hts _ hi.2) hK hP hD hS hA (x_cl ci hci) ?_ hc hs hd (fun q H1 p1 d1 s1 => ?_)
  · intro j hj
    have hN := x_N64 ci hci
    obtain ⟨a1, a2, a3⟩ := hM.2.2.1 (64 * M.1.length + j) (by omega)
    have ho := x_tyk ci hci j hj
    simp only [vp_V, List.getD_eq_getElem?_getD, List.getElem?_map, List.getElem?_range hj, Option.map_some, Option.getD_some]
    cases hty : x_ty ci j <;> rw [hty] at ho <;> simp [x_okty] at ho <;> simp [x_fa, a1, a2, a3, defaultValue]
  · have e1 := x_ws_push (cI := cI) (cZ := cZ) (al := al) (ae := ae) (q := (0, ci)) (z := q) hM
    have e2 : x_ent cI cZ (x_ad (va_up al M.1.length q) ae) M.2 M.1.length (0, ci) = .inr (ci, (List.range (x_N ci)).map fun j => x_fa (x_ty ci j) M.2 (64 * M.1.length + j)) := by
      simp only [x_ent]
      congr 2
      apply List.map_congr_left
      intro j hj
      have hj' := List.mem_range.mp hj
      obtain ⟨a1, a2, a3⟩ := hM.2.2.1 (64 * M.1.length + j) (by omega)
      cases hty : x_ty ci j <;> simp [x_fa, a3, x_cv]
    rw [e2] at e1
    rw [← e1] at p1 d1
    have e3 := x_map_up (al := al) (ae := ae) (q := q) hst
    have e4 := x_lp_up (al := al) (ae := ae) (q := q) hls
    have kk := K p l e s mi args below meth c D cI cZ A ae (va_up al M.1.length q) H1 locs lx Z C ⟨p1, d1, s1, x_Ok_push hM hlen (fun _ => hci)⟩ (by rw [e4]; exact hl) (fun r M' al' H' locs' lx' pc' uc us hq hR hal hle hle2 => hret r M' al' H' locs' lx' pc' uc us hq hR (fun k hk => by
      have hle' : M.1.length + 1 ≤ M'.1.length := by simpa using hle
      rw [hal k (by simp; omega)]
      simp only [va_up]
      rw [if_neg (by omega)]) (by simp at hle; omega) (by simp at hle2; omega)) hc hs
    simp only [List.map_cons, e3] at kk
    simpa [x_cv, x_ad, va_up, hM.1] using kk
theorem x_newa {scr : Option (Nat × (Nat → Int32))} {m : x_Mth} {u : Nat × Nat} {pc : Nat} {ls : List (Nat × Value)} {st : List Value} {M : x_M} {Q : Option Value → x_M → Prop} {atype : ArrayType} (t : Nat) (ht : (t = 1 ∧ atype = .int) ∨ (t = 2 ∧ atype = .boolean)) {z : Int32} (N n : Nat) (hd : decode (x_code m) pc = .ok (.newarray atype, 2))
    (hn : M.1.length = n) (hz : ¬ z < 0) (hN : z.toNatClampNeg = N) (hb2 : N * 4 ≤ 536870912) (hc : u.1 + 1 ≤ x_mc m) (hs : u.2 + N ≤ x_ms m) (hlen : n + 1 < 1000000) (hst : st.all (x_ne n) = true) (hls : (ls.map (·.2)).all (x_ne n) = true)
    (K : X scr m (u.1 + 1, u.2 + N) (pc + 2) ls (.ref n :: st) (M.1 ++ [(t, N)], M.2) Q) : X scr m u pc ls (.int z :: st) M Q := by
  subst hn
  intro p l e s mi args below meth c D cI cZ A ae al H locs lx Z C R hl hret h1 h2
  obtain ⟨hx, hb, hml, hr, hlk, hown, hnm, hts, hK, hA, hE, hsc⟩ := id C
  obtain ⟨hP, hD, hS, hM⟩ := R
  have a1 := (hM.2.2.1 (64 * M.1.length) (Nat.le_refl _)).1
  have key : ∀ (ty : FieldType) (cT : ClassId), newarray.typeOf atype = ty → (Cond.arrayClass (newarray.typeOf atype)).before args s = true → defaultValue ty = .int 0 → N * componentBytes ty ≤ 536870912 → (∃ i : Nat, ([(cI, .int), (cZ, .boolean)] : List (ClassId × FieldType))[i]? = some (cT, ty)) → (∀ cA, va_RA s cA ty → va_RA s cT ty → cA = cT) → x_ent cI cZ (x_ad al ae) M.2 M.1.length (t, N) = .inl (cT, N, .inl (fun _ => 0)) → (∀ ad, x_ent cI cZ ad M.2 M.1.length (t, N) = .inl (cT, N, .inl (fun _ => 0))) → t ≠ 0 →
      W p l e (x_room m) s mi args below meth c H locs u.1 u.2 Z (F0 mi pc lx ((Value.int z :: st).map (x_cv (x_ad al ae)))) := by
    intro ty cT hty harr hdef hbt hmem hinj he0 he ht0
    refine va_newa (a0 := (N, .inl (fun _ => 0))) hx hb harr hty hK hP hD hS hA (fun cA => by rw [vp_cell_i, hdef]) hz hN hbt hc hs hd (fun q cA H1 k1 p1 d1 s1 => ?_)
    have hcA : cA = cT := by
      obtain ⟨i, hi⟩ := hmem
      exact hinj cA (k1.2 2 (cA, ty) rfl).2 (hK.2 i (cT, ty) hi).2
    subst hcA
    have e1 := x_ws_push (cI := cI) (cZ := cZ) (al := al) (ae := ae) (q := (t, N)) (z := q) hM
    rw [he] at e1
    rw [← e1] at p1 d1
    have e3 := x_map_up (al := al) (ae := ae) (q := q) hst
    have e4 := x_lp_up (al := al) (ae := ae) (q := q) hls
    have kk := K p l e s mi args below meth c D cI cZ A ae (va_up al M.1.length q) H1 locs lx Z C ⟨p1, d1, s1, x_Ok_push hM hlen (fun h => absurd h ht0)⟩ (by rw [e4]; exact hl) (fun r M' al' H' locs' lx' pc' uc us hq hR hal hle hle2 => hret r M' al' H' locs' lx' pc' uc us hq hR (fun k hk => by
      have hle' : M.1.length + 1 ≤ M'.1.length := by simpa using hle
      rw [hal k (by simp; omega)]
      simp only [va_up]
      rw [if_neg (by omega)]) (by simp at hle; omega) (by simp at hle2; omega)) hc hs
    simp only [List.map_cons, e3] at kk
    simpa [x_cv, x_ad, va_up, hM.1] using kk
  have inj : ∀ (ty : FieldType), (ty = .int ∨ ty = .boolean) → ∀ cA cT, va_RA s cA ty → va_RA s cT ty → cA = cT := by
    intro ty hty cA cT g1 g2
    rcases hty with rfl | rfl <;> exact Option.some.inj (g1.symm.trans g2)
  rcases ht with ⟨rfl, rfl⟩ | ⟨rfl, rfl⟩
  · exact key .int cI rfl (hts _ x_arrI) rfl hb2 ⟨0, rfl⟩ (fun cA g1 g2 => inj .int (Or.inl rfl) cA cI g1 g2) (by simp [x_ent, a1]) (fun ad => by simp [x_ent, a1]) (by decide)
  · exact key .boolean cZ rfl (hts _ x_arrZ) rfl (by show N * 1 ≤ _; omega) ⟨1, rfl⟩ (fun cA g1 g2 => inj .boolean (Or.inr rfl) cA cZ g1 g2) (by simp [x_ent, a1]) (fun ad => by simp [x_ent, a1]) (by decide)
