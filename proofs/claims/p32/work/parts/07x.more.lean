/-! ===== more instructions; calls that hand the script on ===== -/
theorem x_lmul {scr : Option (Nat × (Nat → Int32))} {m : x_Mth} {u : Nat × Nat} {pc : Nat} {ls : List (Nat × Value)} {st : List Value} {M : x_M} {Q : Option Value → x_M → Prop} {x y : Int64} (hd : decode (x_code m) pc = .ok (.lmul, 1)) (K : X scr m u (pc + 1) ls (.long (x * y) :: st) M Q) : X scr m u pc ls (.long y :: .long x :: st) M Q :=
  x_W (fun p l e s mi args below meth c H locs lx Z ad hx hb hl ho ht k => lv_lmul hx hb hd k) K
theorem x_i2l {scr : Option (Nat × (Nat → Int32))} {m : x_Mth} {u : Nat × Nat} {pc : Nat} {ls : List (Nat × Value)} {st : List Value} {M : x_M} {Q : Option Value → x_M → Prop} {x : Int32} (hd : decode (x_code m) pc = .ok (.i2l, 1)) (K : X scr m u (pc + 1) ls (.long x.toInt64 :: st) M Q) : X scr m u pc ls (.int x :: st) M Q :=
  x_W (fun p l e s mi args below meth c H locs lx Z ad hx hb hl ho ht k => lv_i2l hx hb hd rfl k) K
theorem x_ldc {scr : Option (Nat × (Nat → Int32))} {m : x_Mth} {u : Nat × Nat} {pc : Nat} {ls : List (Nat × Value)} {st : List Value} {M : x_M} {Q : Option Value → x_M → Prop} {idx : Nat} {v : Int32} (hd : decode (x_code m) pc = .ok (.ldc idx, 2)) (hw : Cond.constant (x_own m) idx v ∈ x_GW) (K : X scr m u (pc + 2) ls (.int v :: st) M Q) : X scr m u pc ls st M Q :=
  x_W (fun p l e s mi args below meth c H locs lx Z ad hx hb hl ho ht k => lv_ldc hx hb ho (ht _ hw) hd k) K
/-- what holds of the script, where there is one -/
def x_SF (ae : Nat → Nat) (scr : Option (Nat × (Nat → Int32))) (A : Nat → Prop) (U : State) (H : Heap) : Prop := ∀ L xs, scr = some (L, xs) → va_X (ae 1000020) L xs U H ∧ ae 1000020 < H.size ∧ ¬ A (ae 1000020)
def x_PreS (scr : Option (Nat × (Nat → Int32))) (D : va_G) (cI cZ : ClassId) (ae al : Nat → Nat) (M : x_M) (sz : Nat) : State → Prop := fun U => x_PreB D cI cZ ae al M sz U ∧ x_SF ae scr (x_A al M.1.length sz) U U.heap
theorem x_metS {scr : Option (Nat × (Nat → Int32))} {m : x_Mth} {As : List Value} {M : x_M} {Q : Option Value → x_M → Prop} (hy : plainName (x_y m).cls = true) (hown : x_own m = (x_y m).cls) (hlen : (lg_sl As).length ≤ x_maxL m) (h : X scr m (0, 0) 0 (lv_args 0 As) [] M Q)
    (l : Launch) (D : va_G) (cI cZ : ClassId) (ae al : Nat → Nat) (sz : Nat) :
    Met l (x_y m) (Cond.code (x_y m) (x_code m) (x_maxL m) (x_ret m) :: x_GW) (x_room m) (va_Pc (As.map (x_cv (x_ad al ae))) (x_PreS scr D cI cZ ae al M sz)) (x_Post D cI cZ ae al M sz (x_mc m) Q) (x_mc m) (x_ms m) (x_A al M.1.length sz) := by
  refine Met.ofW (cc := x_code m) (maxL := x_maxL m) (ret := x_ret m) hy rfl ?_
  intro p e s mi args below meth c s₁ B hml hv
  obtain ⟨rfl, ⟨hsz, hP, hK, hD, hM, hE⟩, hsc⟩ := hv
  have hts0 := atoms_spec (ws := Cond.code (x_y m) (x_code m) (x_maxL m) (x_ret m) :: x_GW) B.pre
  have hts : ∀ w ∈ x_GW, w.before _ s = true := fun w hw => hts0 w (List.mem_cons_of_mem _ hw)
  have hfc : s.vm.findClass (x_own m) = some mi.cls := by rw [hown]; exact findClass_of_methodNamed B.named
  have hnm : meth.name = (x_y m).name := (name_of_methodNamed B.named B.method).1
  subst hsz
  have hr := B.returns
  rw [lg_entry_eq]
  have hl0 := lv_entry (As.map (x_cv (x_ad al ae))) (n := x_maxL m) (by rw [x_sl_len]; exact hlen)
  rw [← x_lp_args] at hl0
  have hA : ∀ q, s.heap.size ≤ q → x_A al M.1.length s.heap.size q := fun q hq => Or.inr hq
  have hD2 : va_D (x_A al M.1.length s.heap.size) (x_ws cI cZ (x_ad al ae) M) := by
    refine hD.weaken fun k q hk _ => ?_
    have hk2 : k < M.1.length := by
      have := (List.getElem?_eq_some_iff.mp hk).1
      simpa [x_ws] using this
    cases hq : M.1[k]? with
    | none => rw [List.getElem?_eq_none_iff] at hq; omega
    | some w =>
      have h1 := x_ws_get (cI := cI) (cZ := cZ) (ad := x_ad al ae) hq
      rw [h1] at hk
      cases hk
      have := hM.1
      exact Or.inl ⟨k, hk2, by simp [x_ad, show k < 1000000 by omega]⟩
  exact h p l e s mi _ below meth c D cI cZ (x_A al M.1.length s.heap.size) ae al s.heap [] _ _
    ⟨B.exec, B.bytes, hml, hr, B.notSynchronized, hfc, hnm, hts, hK, hA, hE, fun L xs hh => hsc L xs hh⟩
    ⟨hP, hD2, va_S.rf, hM⟩ hl0
    (fun r M' al' H' locs' lx' pc' uc us hq R' hal hle hle2 hri huc hus => by
      have hpost : ∀ t : State, t.heap = H' → x_Post D cI cZ ae al M s.heap.size (x_mc m) Q ((As.map (x_cv (x_ad al ae))).toArray) s (.returned (r.map (x_cv (x_ad al' ae)))) t := fun t ht =>
        ⟨⟨r, M', al', rfl, hq, by rw [ht]; exact R'.1, R'.2.1, R'.2.2.2, hal, hle, by simpa using hle2⟩, R'.2.2.1.F ht⟩
      refine W.widen (k := x_mc m) (n := x_ms m) huc hus ?_
      match r, hri with
      | none, hri => exact W.vret B.exec B.bytes (hr.trans hri.2) (fun t ht _ => hpost t ht) R'.2.2.1.2.2 hri.1 B.notSynchronized
      | some (.int v), hri =>
        obtain ⟨hd, ty, h1, h2⟩ := hri
        exact W.zret B.exec B.bytes (hr.trans h1) h2 (fun t ht _ => hpost t ht) R'.2.2.1.2.2 hd B.notSynchronized
      | some (.long v), hri => exact W.lret B.exec B.bytes (hr.trans hri.2) (fun t ht _ => hpost t ht) R'.2.2.1.2.2 hri.1 B.notSynchronized)
    (Nat.zero_le _) (Nat.zero_le _)
theorem x_blindS {scr : Option (Nat × (Nat → Int32))} {D : va_G} {cI cZ : ClassId} {ae al : Nat → Nat} {M : x_M} {sz : Nat} {av : List Value} : FrameBlind (va_Pc av (x_PreS scr D cI cZ ae al M sz)) := fun a U g mk q => by
  obtain ⟨e, ⟨h1, h2, h3, h4, h5, h6⟩, hsc⟩ := q
  refine ⟨e, ⟨h1, h2, va_K.moved (u := U) (U := U.calling g mk a) (Vm.Alike.refl U.vm) h3, h4, h5, x_Ext.same (s := U) h6 rfl⟩, fun L xs hh => ?_⟩
  obtain ⟨a1, a2, a3⟩ := hsc L xs hh
  exact ⟨va_X.moved (u := U) (U := U.calling g mk a) (Vm.Alike.refl U.vm) a1, a2, a3⟩
theorem x_preS {scr : Option (Nat × (Nat → Int32))} {m : x_Mth} {p : Program} {s : State} {mi : MethodId} {args : Array Value} {meth : Method} {c : Code} {D : va_G} {cI cZ : ClassId} {A : Nat → Prop} {ae al : Nat → Nat} {M : x_M} {H : Heap} {locs : List Loc} (C : x_Ctx scr m p s mi args meth c D cI cZ A ae) (R : x_Rep D cI cZ A (x_ad al ae) M s.heap H locs) (av : List Value) :
    ∀ U : State, U.heap = H → s.WarmedH U.vm → va_Pc av (x_PreS scr D cI cZ ae al M H.size) av.toArray U := by
  intro U hU hW
  obtain ⟨e, hB⟩ := x_pre C R av U hU hW
  obtain ⟨hx, hb, hml, hr, hlk, hown, hnm, hts, hK, hA, hE, hsc⟩ := id C
  refine ⟨e, hB, fun L xs hh => ?_⟩
  obtain ⟨a1, a2, a3⟩ := hsc L xs hh
  rw [hU]
  exact ⟨va_X.moved hW.alike (a1.kept (R.2.2.1.2.1 _ a2 a3)), Nat.lt_of_lt_of_le a2 R.2.2.1.1, fun z => a3 (x_sub_A R hA _ z)⟩
theorem x_callSS {scr : Option (Nat × (Nat → Int32))} {m : x_Mth} {u : Nat × Nat} {pc : Nat} {ls : List (Nat × Value)} {M : x_M} {Q : Option Value → x_M → Prop} {idx : Nat} (m' : x_Mth) (As rest : List Value) (n : Nat) (st : List Value) (hst : st = As.reverse ++ rest) (hd : decode (x_code m) pc = .ok (.invokestatic idx, 3)) (hl : Cond.methodLink (x_own m) idx (x_y m') ∈ x_GW) (hm : x_MS m' n) (hn : As.length = n)
    (hR : x_fr m' + 1 ≤ x_fr m ∧ 8 + (x_maxL m' + 11) + x_lo m' ≤ x_lo m) (hc : u.1 + x_mc m' ≤ x_mc m ∧ u.2 + x_ms m' ≤ x_ms m) (hw : x_cat rest ≤ 8) (hlen : (lg_sl As).length ≤ x_maxL m')
    (hrk : x_mc m' = 0 ∨ (rest.all (x_rlt M.1.length) = true ∧ (ls.map (·.2)).all (x_rlt M.1.length) = true))
    (K : X scr m' (0, 0) 0 (lv_args 0 As) [] M (fun r M' => X scr m (u.1 + x_mc m', u.2 + x_ms m') (pc + 3) ls (r.toList ++ rest) M' Q)) : X scr m u pc ls st M Q := by
  refine x_callK (Ar := As) (rest := rest) hrk hc (fun p l e s mi args below meth c D cI cZ A ae al H locs lx C R hlx => ?_) (fun r M' h => h)
  subst hst
  obtain ⟨hx, hb, hml, hr, hlk, hown, hnm, hts, hK, hA, hE, hsc⟩ := id C
  have hmet := x_metS hm.1.1 hm.1.2.1 hlen K l D cI cZ ae al H.size
  exact va_runS (As := As.map (x_cv (x_ad al ae))) (rest := rest.map (x_cv (x_ad al ae))) (cc := x_code m) (nL := x_maxL m) ⟨hx, hb, hml, hown, hts⟩ hmet ⟨x_callB hm.1 hts hl hR, hts _ hm.2⟩ ⟨x_blindS, x_preS C R _⟩ rfl (by rw [List.length_map]; exact hn) hlx.1 (by simp) (lv_room (by rw [x_cat_cv]; exact hw)) hd hc
