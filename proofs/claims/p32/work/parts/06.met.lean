/-! ===== a method's pure run gives its contract; a contract gives a call ===== -/
def x_A (al : Nat → Nat) (n sz : Nat) : Nat → Prop := fun q => (∃ k, k < n ∧ q = al k) ∨ sz ≤ q
def x_PreB (D : va_G) (cI cZ : ClassId) (ae al : Nat → Nat) (M : x_M) (sz : Nat) : State → Prop := fun U => U.heap.size = sz ∧ va_P D vwCl (x_ws cI cZ (x_ad al ae) M) U.heap ∧ va_K D vwCl [(cI, .int), (cZ, .boolean)] U ∧ va_D (fun _ => True) (x_ws cI cZ (x_ad al ae) M) ∧ x_Ok M ∧ x_Ext ae (x_A al M.1.length sz) U U.heap
def x_Post (D : va_G) (cI cZ : ClassId) (ae al : Nat → Nat) (M : x_M) (sz mc : Nat) (Q : Option Value → x_M → Prop) : Array Value → State → Outcome → State → Prop := fun _ st oc t =>
  (∃ (r : Option Value) (M' : x_M) (al' : Nat → Nat), oc = .returned (r.map (x_cv (x_ad al' ae))) ∧ Q r M' ∧ va_P D vwCl (x_ws cI cZ (x_ad al' ae) M') t.heap ∧ va_D (x_A al M.1.length sz) (x_ws cI cZ (x_ad al' ae) M') ∧ x_Ok M' ∧ (∀ k, k < M.1.length ∨ M'.1.length ≤ k → al' k = al k) ∧ M.1.length ≤ M'.1.length ∧ M'.1.length ≤ M.1.length + mc) ∧ va_F (x_A al M.1.length sz) st t
theorem x_lp_args (ad : Nat → Nat) : ∀ (As : List Value) (i : Nat), x_lp ad (lv_args i As) = lv_args i (As.map (x_cv ad))
  | [], _ => rfl
  | v :: vs, i => by
    simp only [lv_args, List.map_cons, x_cv_cat]
    show (i, x_cv ad v) :: x_lp ad _ = _
    rw [x_lp_args ad vs]
theorem x_sl_len (ad : Nat → Nat) (As : List Value) : (lg_sl (As.map (x_cv ad))).length = (lg_sl As).length := by
  induction As with
  | nil => rfl
  | cons v vs ih =>
    simp only [lg_sl, List.map_cons, List.flatMap_cons, List.length_append, x_cv_cat] at ih ⊢
    rw [ih]
    by_cases h : v.category = 2 <;> simp [h]
theorem x_met {m : x_Mth} {As : List Value} {M : x_M} {Q : Option Value → x_M → Prop} (hy : plainName (x_y m).cls = true) (hown : x_own m = (x_y m).cls) (hlen : (lg_sl As).length ≤ x_maxL m) (h : X none m (0, 0) 0 (lv_args 0 As) [] M Q)
    (l : Launch) (D : va_G) (cI cZ : ClassId) (ae al : Nat → Nat) (sz : Nat) :
    Met l (x_y m) (Cond.code (x_y m) (x_code m) (x_maxL m) (x_ret m) :: x_GW) (x_room m) (va_Pc (As.map (x_cv (x_ad al ae))) (x_PreB D cI cZ ae al M sz)) (x_Post D cI cZ ae al M sz (x_mc m) Q) (x_mc m) (x_ms m) (x_A al M.1.length sz) := by
  refine Met.ofW (cc := x_code m) (maxL := x_maxL m) (ret := x_ret m) hy rfl ?_
  intro p e s mi args below meth c s₁ B hml hv
  obtain ⟨rfl, hsz, hP, hK, hD, hM, hE⟩ := hv
  have hts0 := atoms_spec (ws := Cond.code (x_y m) (x_code m) (x_maxL m) (x_ret m) :: x_GW) B.pre
  have hts : ∀ w ∈ x_GW, w.before _ s = true := fun w hw => hts0 w (List.mem_cons_of_mem _ hw)
  have hfc : s.vm.findClass (x_own m) = some mi.cls := by rw [hown]; exact findClass_of_methodNamed B.named
  have hnm : meth.name = (x_y m).name := (name_of_methodNamed B.named B.method).1
  subst hsz
  have hr := B.returns
  rw [lg_entry_eq]
  have hl0 := lv_entry (As.map (x_cv (x_ad al ae))) (n := x_maxL m) (by rw [x_sl_len]; exact hlen)
  rw [← x_lp_args] at hl0
  have hA : ∀ q, s.heap.size ≤ q → x_A al M.1.length s.heap.size q := fun q hq => Or.inr hq
  have hD2 : va_D (x_A al M.1.length s.heap.size) (x_ws cI cZ (x_ad al ae) M) := by
    refine hD.weaken fun k q hk _ => ?_
    have hk2 : k < M.1.length := by
      have := (List.getElem?_eq_some_iff.mp hk).1
      simpa [x_ws] using this
    cases hq : M.1[k]? with
    | none => rw [List.getElem?_eq_none_iff] at hq; omega
    | some w =>
      have h1 := x_ws_get (cI := cI) (cZ := cZ) (ad := x_ad al ae) hq
      rw [h1] at hk
      cases hk
      have := hM.1
      exact Or.inl ⟨k, hk2, by simp [x_ad, show k < 1000000 by omega]⟩
  exact h p l e s mi _ below meth c D cI cZ (x_A al M.1.length s.heap.size) ae al s.heap [] _ _
    ⟨B.exec, B.bytes, hml, hr, B.notSynchronized, hfc, hnm, hts, hK, hA, hE, fun L xs hh => by cases hh⟩
    ⟨hP, hD2, va_S.rf, hM⟩ hl0
    (fun r M' al' H' locs' lx' pc' uc us hq R' hal hle hle2 hri huc hus => by
      have hpost : ∀ t : State, t.heap = H' → x_Post D cI cZ ae al M s.heap.size (x_mc m) Q ((As.map (x_cv (x_ad al ae))).toArray) s (.returned (r.map (x_cv (x_ad al' ae)))) t := fun t ht =>
        ⟨⟨r, M', al', rfl, hq, by rw [ht]; exact R'.1, R'.2.1, R'.2.2.2, hal, hle, by simpa using hle2⟩, R'.2.2.1.F ht⟩
      refine W.widen (k := x_mc m) (n := x_ms m) huc hus ?_
      match r, hri with
      | none, hri => exact W.vret B.exec B.bytes (hr.trans hri.2) (fun t ht _ => hpost t ht) R'.2.2.1.2.2 hri.1 B.notSynchronized
      | some (.int v), hri =>
        obtain ⟨hd, ty, h1, h2⟩ := hri
        exact W.zret B.exec B.bytes (hr.trans h1) h2 (fun t ht _ => hpost t ht) R'.2.2.1.2.2 hd B.notSynchronized
      | some (.long v), hri => exact W.lret B.exec B.bytes (hr.trans hri.2) (fun t ht _ => hpost t ht) R'.2.2.1.2.2 hri.1 B.notSynchronized)
    (Nat.zero_le _) (Nat.zero_le _)
theorem x_blind {D : va_G} {cI cZ : ClassId} {ae al : Nat → Nat} {M : x_M} {sz : Nat} {av : List Value} : FrameBlind (va_Pc av (x_PreB D cI cZ ae al M sz)) := fun a U g mk q => by
  obtain ⟨e, h1, h2, h3, h4, h5, h6⟩ := q
  exact ⟨e, h1, h2, va_K.moved (u := U) (U := U.calling g mk a) (Vm.Alike.refl U.vm) h3, h4, h5, x_Ext.same (s := U) h6 rfl⟩
theorem x_sub_A {D : va_G} {cI cZ : ClassId} {A : Nat → Prop} {ae al : Nat → Nat} {M : x_M} {s : State} {H : Heap} {locs : List Loc} (R : x_Rep D cI cZ A (x_ad al ae) M s.heap H locs) (hA : ∀ q, s.heap.size ≤ q → A q) : ∀ q, x_A al M.1.length H.size q → A q := by
  rintro q (⟨k, hk, rfl⟩ | hq)
  · cases hw : M.1[k]? with
    | none => rw [List.getElem?_eq_none_iff] at hw; omega
    | some w =>
      have h1 := R.2.1.2 k _ (x_ws_get hw)
      have := R.2.2.2.1
      simpa [x_ad, show k < 1000000 by omega] using h1
  · exact hA q (Nat.le_trans R.2.2.1.1 hq)
theorem x_pre {scr : Option (Nat × (Nat → Int32))} {m : x_Mth} {p : Program} {s : State} {mi : MethodId} {args : Array Value} {meth : Method} {c : Code} {D : va_G} {cI cZ : ClassId} {A : Nat → Prop} {ae al : Nat → Nat} {M : x_M} {H : Heap} {locs : List Loc} (C : x_Ctx scr m p s mi args meth c D cI cZ A ae) (R : x_Rep D cI cZ A (x_ad al ae) M s.heap H locs) (av : List Value) :
    ∀ U : State, U.heap = H → s.WarmedH U.vm → va_Pc av (x_PreB D cI cZ ae al M H.size) av.toArray U := by
  obtain ⟨hx, hb, hml, hr, hlk, hown, hnm, hts, hK, hA, hE, hsc⟩ := id C
  intro U hU hW
  refine ⟨rfl, by rw [hU], by rw [hU]; exact R.1, va_K.moved hW.alike hK, R.2.1.weaken (fun _ _ _ _ => trivial), R.2.2.2, ?_⟩
  rw [hU]
  exact ((hE.kept R.2.2.1.2.1).narrow (x_sub_A R hA)).warm hW
theorem x_map_rlt {al al' ae : Nat → Nat} {n : Nat} {st : List Value} (hal : ∀ k, k < n → al' k = al k) (h : st.all (x_rlt n) = true) : st.map (x_cv (x_ad al' ae)) = st.map (x_cv (x_ad al ae)) := by
  refine List.map_congr_left fun v hv => ?_
  have h1 := List.all_eq_true.mp h v hv
  cases v with
  | ref k =>
    simp only [x_rlt, Bool.or_eq_true, decide_eq_true_eq] at h1
    simp only [x_cv, x_ad]
    by_cases hk : k < 1000000
    · rw [if_pos hk, if_pos hk, hal k (h1.elim id (fun g => absurd hk (Nat.not_lt.mpr g)))]
    · rw [if_neg hk, if_neg hk]
  | _ => rfl
theorem x_lp_rlt {al al' ae : Nat → Nat} {n : Nat} {ls : List (Nat × Value)} (hal : ∀ k, k < n → al' k = al k) (h : (ls.map (·.2)).all (x_rlt n) = true) : x_lp (x_ad al' ae) ls = x_lp (x_ad al ae) ls := by
  refine List.map_congr_left fun v hv => ?_
  have h1 := x_map_rlt (ae := ae) (st := [v.2]) hal (by simpa using List.all_eq_true.mp h v.2 (List.mem_map_of_mem hv))
  have h2 : x_cv (x_ad al' ae) v.2 = x_cv (x_ad al ae) v.2 := by simpa using h1
  rw [h2]
/-- behind a call: the caller goes on in the callee's world -/
theorem x_callK {scr : Option (Nat × (Nat → Int32))} {m m' : x_Mth} {u : Nat × Nat} {pc : Nat} {ls : List (Nat × Value)} {st rest Ar : List Value} {M : x_M} {Q : Option Value → x_M → Prop} {Q' : Option Value → x_M → Prop}
    (hrk : x_mc m' = 0 ∨ (rest.all (x_rlt M.1.length) = true ∧ (ls.map (·.2)).all (x_rlt M.1.length) = true)) (hc : u.1 + x_mc m' ≤ x_mc m ∧ u.2 + x_ms m' ≤ x_ms m)
    (hrun : ∀ (p : Program) (l : Launch) (e : Env) (s : State) (mi : MethodId) (args : Array Value) (below : List Frame) (meth : Method) (c : Code) (D : va_G) (cI cZ : ClassId) (A : Nat → Prop) (ae al : Nat → Nat) (H : Heap) (locs : List Loc) (lx : Array Slot),
      x_Ctx scr m p s mi args meth c D cI cZ A ae → x_Rep D cI cZ A (x_ad al ae) M s.heap H locs → lv_has lx (x_maxL m) (x_lp (x_ad al ae) ls) →
      va_Run p l e (x_room m) s mi args below meth c H locs u.1 u.2 (x_mc m') (x_ms m') (F0 mi pc lx (st.map (x_cv (x_ad al ae)))) (rest.map (x_cv (x_ad al ae))) (x_Post D cI cZ ae al M H.size (x_mc m') Q' (Ar.map (x_cv (x_ad al ae))).toArray) (x_A al M.1.length H.size))
    (K : ∀ r M', Q' r M' → X scr m (u.1 + x_mc m', u.2 + x_ms m') (pc + 3) ls (r.toList ++ rest) M' Q) : X scr m u pc ls st M Q := by
  intro p l e s mi args below meth c D cI cZ A ae al H locs lx Z C R hl hret h1 h2 T hT XX
  obtain ⟨hx, hb, hml, hr, hlk, hown, hnm, hts, hK, hA, hE, hsc⟩ := id C
  obtain ⟨v, st₀, t, T', L, h0, X', hL, e1, e2, ⟨⟨r, M', al', hv, hq, p1, d1, ok1, hal, hle, hle2⟩, hz, hk⟩, sx⟩ := hrun p l e s mi args below meth c D cI cZ A ae al H locs lx C R hl T hT XX
  have hsub := x_sub_A R hA
  rw [h0] at hz hk
  rw [← e1] at hz hk p1
  cases hv
  have hS := R.2.2.1
  have hS1 : va_S A s.heap T'.heap (locs ++ L) := ⟨Nat.le_trans hS.1 hz, fun q g1 g2 => by
      rw [hk q (Nat.lt_of_lt_of_le g1 hS.1) (fun z => g2 (hsub q z))]; exact hS.2.1 q g1 g2, fun q hq => by
      rcases List.mem_append.mp hq with g | g
      · exact hS.2.2 q g
      · exact hsub _ (hL q g)⟩
  have hst : rest.map (x_cv (x_ad al' ae)) = rest.map (x_cv (x_ad al ae)) ∧ x_lp (x_ad al' ae) ls = x_lp (x_ad al ae) ls := by
    rcases hrk with hm | ⟨g1, g2⟩
    · have : al' = al := by
        funext k
        apply hal
        omega
      rw [this]
      exact ⟨rfl, rfl⟩
    · exact ⟨x_map_rlt (fun k hk => hal k (Or.inl hk)) g1, x_lp_rlt (fun k hk => hal k (Or.inl hk)) g2⟩
  have kk := K r M' hq p l e s mi args below meth c D cI cZ A ae al' T'.heap (locs ++ L) lx Z C ⟨p1, d1.weaken (fun _ q _ g => hsub _ g), hS1, ok1⟩ (by rw [hst.2]; exact hl)
    (fun r2 M2 al2 H2 locs2 lx2 pc2 uc us q2 R2 hal2 hl2 hl3 => hret r2 M2 al2 H2 locs2 lx2 pc2 uc us q2 R2 (fun k hk => by rw [hal2 k (by omega), hal k (by omega)]) (by omega) (by dsimp only at hl3; omega)) hc.1 hc.2
  rw [List.map_append, hst.1] at kk
  obtain ⟨t2, a1, b1⟩ := kk T' rfl X'
  refine ⟨t2, sx t2 ?_, b1⟩
  cases r <;> exact a1
/-- what a method's name, code and tables give, for every call of it -/
def x_MI (m : x_Mth) (n : Nat) : Prop := plainName (x_y m).cls = true ∧ x_own m = (x_y m).cls ∧ Cond.initialized (x_y m).cls ∈ x_GW ∧ Cond.code (x_y m) (x_code m) (x_maxL m) (x_ret m) ∈ x_GW ∧ (x_y m).cls ≠ "java/lang/invoke/MethodHandle" ∧ (x_y m).cls ≠ "java/lang/invoke/VarHandle" ∧ (parseMethodDescriptor (x_y m).desc).map (fun d => d.parameters.length) = some n
def x_MV (m : x_Mth) (n : Nat) : Prop := x_MI m n ∧ Cond.instanceMethod (x_y m) ∈ x_GW ∧ Cond.selects (x_y m).cls (x_y m) (x_y m) ∈ x_GW
def x_MS (m : x_Mth) (n : Nat) : Prop := x_MI m n ∧ Cond.static (x_y m) ∈ x_GW
def x_MC (m : x_Mth) (n : Nat) : Prop := x_MI m n ∧ Cond.instanceMethod (x_y m) ∈ x_GW ∧ (x_y m).name = "<init>" ∧ x_ret m = none
theorem x_goodGW {m : x_Mth} (h : Cond.code (x_y m) (x_code m) (x_maxL m) (x_ret m) ∈ x_GW) : GoodIn x_GW (Cond.code (x_y m) (x_code m) (x_maxL m) (x_ret m) :: x_GW) := by
  intro w hw
  have h1 : w ∈ x_GW := by
    rcases List.mem_cons.mp hw with rfl | h1
    · exact h
    · exact h1
  exact ⟨h1, good_of_word (List.mem_filter.mp h1).2⟩
theorem x_callB {m m' : x_Mth} {n idx : Nat} {s : State} {args : Array Value} (hm : x_MI m' n) (hts : ∀ w ∈ x_GW, w.before args s = true) (hl : Cond.methodLink (x_own m) idx (x_y m') ∈ x_GW) (hR : x_fr m' + 1 ≤ x_fr m ∧ 8 + (x_maxL m' + 11) + x_lo m' ≤ x_lo m) :
    CallB (x_room m) s args (x_own m) idx (x_y m') (x_code m') (x_maxL m') (x_ret m') (Cond.code (x_y m') (x_code m') (x_maxL m') (x_ret m') :: x_GW) (x_room m') (x_mc m') (x_ms m') n :=
  callB_of n hts (x_goodGW hm.2.2.2.1) rfl rfl rfl (hts _ hm.2.2.1) (hts _ hl) hm.2.2.2.2 hR
/-- the sum of the words of what lies below the arguments -/
abbrev x_cat (st : List Value) : Nat := (st.map fun v => v.category).sum
theorem x_cat_cv (ad : Nat → Nat) (st : List Value) : ((st.map (x_cv ad)).map fun v => v.category).sum = x_cat st := by
  simp only [x_cat, List.map_map]
  congr 1
  exact List.map_congr_left fun v _ => x_cv_cat ad v
theorem x_callV {scr : Option (Nat × (Nat → Int32))} {m : x_Mth} {u : Nat × Nat} {pc : Nat} {ls : List (Nat × Value)} {M : x_M} {Q : Option Value → x_M → Prop} {idx : Nat} (m' : x_Mth) (As rest : List Value) (b ci n : Nat) (st : List Value) (hst : st = As.reverse ++ .ref b :: rest) (hd : decode (x_code m) pc = .ok (.invokevirtual idx, 3)) (hl : Cond.methodLink (x_own m) idx (x_y m') ∈ x_GW) (hm : x_MV m' n) (hn : As.length = n)
    (hR : x_fr m' + 1 ≤ x_fr m ∧ 8 + (x_maxL m' + 11) + x_lo m' ≤ x_lo m) (hc : u.1 + x_mc m' ≤ x_mc m ∧ u.2 + x_ms m' ≤ x_ms m) (hw : x_cat rest ≤ 8) (ho : M.1[b]? = some (0, ci)) (hci : ci < 10) (hcl : (x_y m').cls = x_R ci) (hlen : (lg_sl (.ref b :: As)).length ≤ x_maxL m')
    (hrk : x_mc m' = 0 ∨ (rest.all (x_rlt M.1.length) = true ∧ (ls.map (·.2)).all (x_rlt M.1.length) = true))
    (K : X none m' (0, 0) 0 (lv_args 0 (.ref b :: As)) [] M (fun r M' => X scr m (u.1 + x_mc m', u.2 + x_ms m') (pc + 3) ls (r.toList ++ rest) M' Q)) : X scr m u pc ls st M Q := by
  refine x_callK (Ar := .ref b :: As) (rest := rest) hrk hc (fun p l e s mi args below meth c D cI cZ A ae al H locs lx C R hlx => ?_) (fun r M' h => h)
  subst hst
  obtain ⟨hx, hb, hml, hr, hlk, hown, hnm, hts, hK, hA, hE, hsc⟩ := id C
  have hmet := x_met hm.1.1 hm.1.2.1 hlen K l D cI cZ ae al H.size
  have hb1 : x_ad al ae b = al b := by have := R.2.2.2.1; have := x_lt_of ho; simp [x_ad, show b < 1000000 by omega]
  have cw : CallW (x_room m) s args (x_own m) (x_y m').cls idx (x_y m') (x_code m') (x_maxL m') (x_ret m') (Cond.code (x_y m') (x_code m') (x_maxL m') (x_ret m') :: x_GW) (x_room m') (x_mc m') (x_ms m') n := ⟨x_callB hm.1 hts hl hR, hts _ hm.2.1, hts _ hm.2.2⟩
  have hrv : ∃ cell : Cell, H[x_ad al ae b]? = some cell ∧ cell.vm.isStatics = false ∧ s.vm.findClass (x_y m').cls = some cell.cls := by
    rw [hcl]
    exact va_recv hK R.1 (x_cl ci hci) (x_ws_get ho)
  exact va_runV (As := As.map (x_cv (x_ad al ae))) (rest := rest.map (x_cv (x_ad al ae))) (b := x_ad al ae b) (cc := x_code m) (nL := x_maxL m) ⟨hx, hb, hml, hown, hts⟩ hmet cw ⟨x_blind, hrv, x_pre C R _⟩ rfl (by rw [List.length_map]; exact hn) hlx.1 (by simp [x_cv]) (lv_room (by rw [x_cat_cv]; exact hw)) hd hc
theorem x_callS {scr : Option (Nat × (Nat → Int32))} {m : x_Mth} {u : Nat × Nat} {pc : Nat} {ls : List (Nat × Value)} {M : x_M} {Q : Option Value → x_M → Prop} {idx : Nat} (m' : x_Mth) (As rest : List Value) (n : Nat) (st : List Value) (hst : st = As.reverse ++ rest) (hd : decode (x_code m) pc = .ok (.invokestatic idx, 3)) (hl : Cond.methodLink (x_own m) idx (x_y m') ∈ x_GW) (hm : x_MS m' n) (hn : As.length = n)
    (hR : x_fr m' + 1 ≤ x_fr m ∧ 8 + (x_maxL m' + 11) + x_lo m' ≤ x_lo m) (hc : u.1 + x_mc m' ≤ x_mc m ∧ u.2 + x_ms m' ≤ x_ms m) (hw : x_cat rest ≤ 8) (hlen : (lg_sl As).length ≤ x_maxL m')
    (hrk : x_mc m' = 0 ∨ (rest.all (x_rlt M.1.length) = true ∧ (ls.map (·.2)).all (x_rlt M.1.length) = true))
    (K : X none m' (0, 0) 0 (lv_args 0 As) [] M (fun r M' => X scr m (u.1 + x_mc m', u.2 + x_ms m') (pc + 3) ls (r.toList ++ rest) M' Q)) : X scr m u pc ls st M Q := by
  refine x_callK (Ar := As) (rest := rest) hrk hc (fun p l e s mi args below meth c D cI cZ A ae al H locs lx C R hlx => ?_) (fun r M' h => h)
  subst hst
  obtain ⟨hx, hb, hml, hr, hlk, hown, hnm, hts, hK, hA, hE, hsc⟩ := id C
  have hmet := x_met hm.1.1 hm.1.2.1 hlen K l D cI cZ ae al H.size
  exact va_runS (As := As.map (x_cv (x_ad al ae))) (rest := rest.map (x_cv (x_ad al ae))) (cc := x_code m) (nL := x_maxL m) ⟨hx, hb, hml, hown, hts⟩ hmet ⟨x_callB hm.1 hts hl hR, hts _ hm.2⟩ ⟨x_blind, x_pre C R _⟩ rfl (by rw [List.length_map]; exact hn) hlx.1 (by simp) (lv_room (by rw [x_cat_cv]; exact hw)) hd hc
theorem x_callC {scr : Option (Nat × (Nat → Int32))} {m : x_Mth} {u : Nat × Nat} {pc : Nat} {ls : List (Nat × Value)} {M : x_M} {Q : Option Value → x_M → Prop} {idx : Nat} (m' : x_Mth) (As rest : List Value) (b n : Nat) (st : List Value) (hst : st = As.reverse ++ .ref b :: rest) (hd : decode (x_code m) pc = .ok (.invokespecial idx, 3)) (hl : Cond.methodLink (x_own m) idx (x_y m') ∈ x_GW) (hm : x_MC m' n) (hn : As.length = n)
    (hR : x_fr m' + 1 ≤ x_fr m ∧ 8 + (x_maxL m' + 11) + x_lo m' ≤ x_lo m) (hc : u.1 + x_mc m' ≤ x_mc m ∧ u.2 + x_ms m' ≤ x_ms m) (hw : x_cat rest ≤ 8) (hlen : (lg_sl (.ref b :: As)).length ≤ x_maxL m')
    (hrk : x_mc m' = 0 ∨ (rest.all (x_rlt M.1.length) = true ∧ (ls.map (·.2)).all (x_rlt M.1.length) = true))
    (K : X none m' (0, 0) 0 (lv_args 0 (.ref b :: As)) [] M (fun r M' => X scr m (u.1 + x_mc m', u.2 + x_ms m') (pc + 3) ls (r.toList ++ rest) M' Q)) : X scr m u pc ls st M Q := by
  refine x_callK (Ar := .ref b :: As) (rest := rest) hrk hc (fun p l e s mi args below meth c D cI cZ A ae al H locs lx C R hlx => ?_) (fun r M' h => h)
  subst hst
  obtain ⟨hx, hb, hml, hr, hlk, hown, hnm, hts, hK, hA, hE, hsc⟩ := id C
  have hmet := x_met hm.1.1 hm.1.2.1 hlen K l D cI cZ ae al H.size
  have hcb := x_callB hm.1 hts hl hR
  rw [hm.2.2.2] at hmet hcb
  exact va_runI (As := As.map (x_cv (x_ad al ae))) (rest := rest.map (x_cv (x_ad al ae))) (b := x_ad al ae b) (cc := x_code m) (nL := x_maxL m) ⟨hx, hb, hml, hown, hts⟩ hmet ⟨hcb, hm.2.2.1, hts _ hm.2.1⟩ ⟨x_blind, x_pre C R _⟩ rfl (by rw [List.length_map]; exact hn) hlx.1 (by simp [x_cv]) (lv_room (by rw [x_cat_cv]; exact hw)) hd hc
