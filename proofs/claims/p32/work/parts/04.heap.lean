/-! ===== fields, arrays, new cells ===== -/
def x_up (I : Nat → Nat → Int32) (r i : Nat) (v : Int32) : Nat → Nat → Int32 := fun r' => if r' = r then upd (I r) i v else I r'
def x_upL (L : Nat → Int64) (r : Nat) (v : Int64) : Nat → Int64 := fun r' => if r' = r then v else L r'
def x_upR (R : Nat → Option Nat) (r : Nat) (v : Option Nat) : Nat → Option Nat := fun r' => if r' = r then v else R r'
/-- a field, as an entry of the class's pool tells it -/
def x_FL (own : String) (idx ci j : Nat) : Prop := ci < 10 ∧ j < x_N ci ∧ Cond.fieldLink own idx (x_R ci) (x_T ci j).2.1 (x_T ci j).2.2.1 ∈ x_GW
theorem x_getf {scr : Option (Nat × (Nat → Int32))} {m : x_Mth} {u : Nat × Nat} {pc : Nat} {ls : List (Nat × Value)} {st : List Value} {M : x_M} {Q : Option Value → x_M → Prop} {idx : Nat} (ci j : Nat) {o : Nat} (v : Value) (hd : decode (x_code m) pc = .ok (.getfield idx, 3)) (hf : x_FL (x_own m) idx ci j) (ho : M.1[o]? = some (0, ci)) (hv : x_fa (x_ty ci j) M.2 (64 * o + j) = v)
    (K : X scr m u (pc + 3) ls (v :: st) M Q) : X scr m u pc ls (.ref o :: st) M Q := by
  intro p l e s mi args below meth c D cI cZ A ae al H locs lx Z C R hl hret h1 h2
  obtain ⟨hx, hb, hml, hr, hlk, hown, hnm, hts, hK, hA, hE, hsc⟩ := id C
  obtain ⟨hci, hj, hw⟩ := hf
  subst hv
  refine va_get (C := x_R ci) (T := x_T ci) (N := x_N ci) (ci := ci) (own := x_own m) (ref := x_R ci) hx hb hts (x_uw ci hci) hown hK R.1 o (x_ws_get ho) (x_cl ci hci) j hj (hts _ hw) (fun x h => by rw [x_own0 ci hci j hj] at h; exact h) (v := x_cv (x_ad al ae) (x_fa (x_ty ci j) M.2 (64 * o + j))) ?_ hd (K p l e s mi args below meth c D cI cZ A ae al H locs lx Z C R hl hret h1 h2)
  simp [List.getElem?_map, List.getElem?_range hj]
theorem x_fa_congr {ty : FieldType} {K K' : (Nat → Nat → Int32) × (Nat → Int64) × (Nat → Option Nat)} {r : Nat} (h : K'.1 r = K.1 r ∧ K'.2.1 r = K.2.1 r ∧ K'.2.2 r = K.2.2 r) : x_fa ty K' r = x_fa ty K r := by
  obtain ⟨a, b, c⟩ := h
  cases ty <;> simp only [x_fa, a, b, c]
theorem x_ent_congr {cI cZ : ClassId} {ad : Nat → Nat} {K K' : (Nat → Nat → Int32) × (Nat → Int64) × (Nat → Option Nat)} {i : Nat} {q : Nat × Nat} (hq : q.1 = 0 → q.2 < 10) (h : ∀ r, 64 * i ≤ r → r < 64 * i + 64 → K'.1 r = K.1 r ∧ K'.2.1 r = K.2.1 r ∧ K'.2.2 r = K.2.2 r) : x_ent cI cZ ad K' i q = x_ent cI cZ ad K i q := by
  obtain ⟨a, b⟩ := q
  match a with
  | 0 =>
    have hb := x_N64 b (hq rfl)
    simp only [x_ent]
    congr 2
    apply List.map_congr_left
    intro j hj
    have hj' := List.mem_range.mp hj
    rw [x_fa_congr (h (64 * i + j) (by omega) (by omega))]
  | 1 => simp only [x_ent, (h (64 * i) (Nat.le_refl _) (by omega)).1]
  | n + 2 => simp only [x_ent, (h (64 * i) (Nat.le_refl _) (by omega)).1]
theorem x_ws_set {cI cZ : ClassId} {ad : Nat → Nat} {M : x_M} {K' : (Nat → Nat → Int32) × (Nat → Int64) × (Nat → Option Nat)} {o : Nat} {q : Nat × Nat} {en : va_E} (hok : x_Ok M) (ho : M.1[o]? = some q) (hs : ∀ r, (r < 64 * o ∨ 64 * o + 64 ≤ r) → K'.1 r = M.2.1 r ∧ K'.2.1 r = M.2.2.1 r ∧ K'.2.2 r = M.2.2.2 r) (he : x_ent cI cZ ad K' o q = en) : (x_ws cI cZ ad M).set o (ad o, en) = x_ws cI cZ ad (M.1, K') := by
  apply List.ext_getElem?
  intro i
  have hlt : o < (x_ws cI cZ ad M).length := by simp [x_ws]; exact (List.getElem?_eq_some_iff.mp ho).1
  by_cases h : o = i
  · subst h
    rw [List.getElem?_set_self hlt, x_ws_get (M := (M.1, K')) ho, he]
  · rw [List.getElem?_set_ne h]
    simp only [x_ws, List.getElem?_mapIdx]
    cases hi : M.1[i]? with
    | none => rfl
    | some q' =>
      simp only [Option.map_some]
      rw [x_ent_congr (K := M.2) (K' := K') (i := i) (q := q') (fun h0 => hok.2.2.2 i q'.2 (by rw [hi, ← h0])) (fun r h1 h2 => hs r (by omega))]
theorem x_ent_put {cI cZ : ClassId} {ad : Nat → Nat} {K K' : (Nat → Nat → Int32) × (Nat → Int64) × (Nat → Option Nat)} {o ci j : Nat} {v : Value} (hj : j < x_N ci) (hs : ∀ r, r ≠ 64 * o + j → K'.1 r = K.1 r ∧ K'.2.1 r = K.2.1 r ∧ K'.2.2 r = K.2.2 r) (hv : x_fa (x_ty ci j) K' (64 * o + j) = v) :
    x_ent cI cZ ad K' o (0, ci) = .inr (ci, ((List.range (x_N ci)).map fun j => x_cv ad (x_fa (x_ty ci j) K (64 * o + j))).set j (x_cv ad v)) := by
  simp only [x_ent]
  congr 2
  apply List.ext_getElem?
  intro i
  by_cases h : j = i
  · subst h
    rw [List.getElem?_set_self (by simpa using hj)]
    simp [List.getElem?_map, List.getElem?_range hj, hv]
  · rw [List.getElem?_set_ne h]
    simp only [List.getElem?_map]
    cases hi : (List.range (x_N ci))[i]? with
    | none => rfl
    | some w =>
      have hw : w = i := by
        obtain ⟨_, hw⟩ := List.getElem?_eq_some_iff.mp hi
        simpa using hw.symm
      subst hw
      simp only [Option.map_some]
      rw [x_fa_congr (hs (64 * o + w) (by omega))]
theorem x_putG {scr : Option (Nat × (Nat → Int32))} {m : x_Mth} {u : Nat × Nat} {pc : Nat} {ls : List (Nat × Value)} {st : List Value} {M : x_M} {Q : Option Value → x_M → Prop} {idx : Nat} (ci j : Nat) {o : Nat} {v : Value} (K' : (Nat → Nat → Int32) × (Nat → Int64) × (Nat → Option Nat)) (hd : decode (x_code m) pc = .ok (.putfield idx, 3)) (hf : x_FL (x_own m) idx ci j) (ho : M.1[o]? = some (0, ci))
    (hfin : (x_T ci j).2.2.2 = false ∨ ((x_y m).name = "<init>" ∧ x_R ci = x_own m)) (hn : ∀ ad, narrow (x_ty ci j) (x_cv ad v) = x_cv ad v) (hfit : ∀ ad, fits (x_ty ci j) (x_cv ad v) = true)
    (hs : ∀ r, r ≠ 64 * o + j → K'.1 r = M.2.1 r ∧ K'.2.1 r = M.2.2.1 r ∧ K'.2.2 r = M.2.2.2 r) (hv : x_fa (x_ty ci j) K' (64 * o + j) = v) (hok : x_Ok M → x_Ok (M.1, K'))
    (K : X scr m u (pc + 3) ls st (M.1, K') Q) : X scr m u pc ls (v :: .ref o :: st) M Q := by
  intro p l e s mi args below meth c D cI cZ A ae al H locs lx Z C R hl hret h1 h2
  obtain ⟨hx, hb, hml, hr, hlk, hown, hnm, hts, hK, hA, hE, hsc⟩ := id C
  obtain ⟨hci, hj, hw⟩ := hf
  obtain ⟨hP, hD, hS, hM⟩ := R
  have hN := x_N64 ci hci
  have e1 := x_ws_set (cI := cI) (cZ := cZ) (ad := x_ad al ae) (K' := K') hM ho (fun r hr => hs r (by omega)) (x_ent_put (cI := cI) (cZ := cZ) (ad := x_ad al ae) (K := M.2) hj hs hv)
  have kk : ∀ (H1 : Heap) (locs1 : List Loc), va_P D vwCl ((x_ws cI cZ (x_ad al ae) M).set o (x_ad al ae o, .inr (ci, ((List.range (x_N ci)).map fun j => x_cv (x_ad al ae) (x_fa (x_ty ci j) M.2 (64 * o + j))).set j (x_cv (x_ad al ae) v)))) H1 → va_D A ((x_ws cI cZ (x_ad al ae) M).set o (x_ad al ae o, .inr (ci, ((List.range (x_N ci)).map fun j => x_cv (x_ad al ae) (x_fa (x_ty ci j) M.2 (64 * o + j))).set j (x_cv (x_ad al ae) v)))) → va_S A s.heap H1 locs1 → W p l e (x_room m) s mi args below meth c H1 locs1 u.1 u.2 Z (F0 mi (pc + 3) lx (st.map (x_cv (x_ad al ae)))) := by
    intro H1 locs1 p1 d1 s1
    rw [e1] at p1 d1
    exact K p l e s mi args below meth c D cI cZ A ae al H1 locs1 lx Z C ⟨p1, d1, s1, hok hM⟩ hl hret h1 h2
  cases hff : (x_T ci j).2.2.2 with
  | false => exact va_put (C := x_R ci) (T := x_T ci) (N := x_N ci) (ci := ci) (own := x_own m) (ref := x_R ci) hx hb hts (x_uw ci hci) (x_ty ci) (x_tyok ci hci) (x_nm ci hci) hown hK hP hD hS o (x_ws_get ho) (x_cl ci hci) j hj (hts _ hw) (fun x h => by rw [x_own0 ci hci j hj] at h; exact h) hff (x_tyok ci hci j hj) (hn _) (hfit _) (by simpa using hj) hd kk
  | true =>
    rcases hfin with q | ⟨q1, q2⟩
    · rw [q] at hff; cases hff
    · exact va_putF (C := x_R ci) (T := x_T ci) (N := x_N ci) (ci := ci) (own := x_own m) (ref := x_R ci) hx hb hts (x_uw ci hci) (x_ty ci) (x_tyok ci hci) (x_nm ci hci) hown hK hP hD hS o (x_ws_get ho) (x_cl ci hci) j hj (hts _ hw) (fun x h => by rw [x_own0 ci hci j hj] at h; exact h) hff (hnm.trans q1) ((x_own0 ci hci j hj).trans q2) (x_tyok ci hci j hj) (hn _) (hfit _) (by simpa using hj) hd kk
theorem x_lt_of {M : x_M} {o : Nat} {q : Nat × Nat} (ho : M.1[o]? = some q) : o < M.1.length := (List.getElem?_eq_some_iff.mp ho).1
theorem x_Ok_i {M : x_M} {r i : Nat} {v : Int32} (h : x_Ok M) (hr : r < 64 * M.1.length) : x_Ok (M.1, x_up M.2.1 r i v, M.2.2) := by
  refine ⟨h.1, h.2.1, fun r' hr' => ⟨?_, (h.2.2.1 r' hr').2⟩, h.2.2.2⟩
  have : r' ≠ r := by have h0 : 64 * M.1.length ≤ r' := hr'; omega
  simp only [x_up, if_neg this]
  exact (h.2.2.1 r' hr').1
/-- putfield of an int -/
theorem x_puti {scr : Option (Nat × (Nat → Int32))} {m : x_Mth} {u : Nat × Nat} {pc : Nat} {ls : List (Nat × Value)} {st : List Value} {M : x_M} {Q : Option Value → x_M → Prop} {idx : Nat} (ci j : Nat) {o : Nat} {v : Int32} (hd : decode (x_code m) pc = .ok (.putfield idx, 3)) (hf : x_FL (x_own m) idx ci j) (ho : M.1[o]? = some (0, ci)) (hty : x_ty ci j = .int)
    (hfin : (x_T ci j).2.2.2 = false ∨ ((x_y m).name = "<init>" ∧ x_R ci = x_own m)) (K : X scr m u (pc + 3) ls st (M.1, x_up M.2.1 (64 * o + j) 0 v, M.2.2) Q) : X scr m u pc ls (.int v :: .ref o :: st) M Q := by
  have hN := x_N64 ci hf.1
  have hj := hf.2.1
  have hlt := x_lt_of ho
  refine x_putG ci j (x_up M.2.1 (64 * o + j) 0 v, M.2.2) hd hf ho hfin (fun ad => by rw [hty]; rfl) (fun ad => by rw [hty]; rfl) (fun r hr => ⟨by simp only [x_up, if_neg hr], rfl, rfl⟩) ?_ (fun h => x_Ok_i h (by omega)) K
  rw [hty]
  simp [x_fa, x_up, upd]
/-- putfield of a boolean -/
theorem x_putz {scr : Option (Nat × (Nat → Int32))} {m : x_Mth} {u : Nat × Nat} {pc : Nat} {ls : List (Nat × Value)} {st : List Value} {M : x_M} {Q : Option Value → x_M → Prop} {idx : Nat} (ci j : Nat) {o : Nat} {v : Int32} (hd : decode (x_code m) pc = .ok (.putfield idx, 3)) (hf : x_FL (x_own m) idx ci j) (ho : M.1[o]? = some (0, ci)) (hty : x_ty ci j = .boolean) (h01 : v = 0 ∨ v = 1)
    (hfin : (x_T ci j).2.2.2 = false ∨ ((x_y m).name = "<init>" ∧ x_R ci = x_own m)) (K : X scr m u (pc + 3) ls st (M.1, x_up M.2.1 (64 * o + j) 0 v, M.2.2) Q) : X scr m u pc ls (.int v :: .ref o :: st) M Q := by
  have hN := x_N64 ci hf.1
  have hj := hf.2.1
  have hlt := x_lt_of ho
  refine x_putG ci j (x_up M.2.1 (64 * o + j) 0 v, M.2.2) hd hf ho hfin (fun ad => by rw [hty]; rcases h01 with rfl | rfl <;> rfl) (fun ad => by rw [hty]; rcases h01 with rfl | rfl <;> rfl) (fun r hr => ⟨by simp only [x_up, if_neg hr], rfl, rfl⟩) ?_ (fun h => x_Ok_i h (by omega)) K
  rw [hty]
  simp [x_fa, x_up, upd]
/-- putfield of a long -/
theorem x_putl {scr : Option (Nat × (Nat → Int32))} {m : x_Mth} {u : Nat × Nat} {pc : Nat} {ls : List (Nat × Value)} {st : List Value} {M : x_M} {Q : Option Value → x_M → Prop} {idx : Nat} (ci j : Nat) {o : Nat} {v : Int64} (hd : decode (x_code m) pc = .ok (.putfield idx, 3)) (hf : x_FL (x_own m) idx ci j) (ho : M.1[o]? = some (0, ci)) (hty : x_ty ci j = .long)
    (hfin : (x_T ci j).2.2.2 = false ∨ ((x_y m).name = "<init>" ∧ x_R ci = x_own m)) (K : X scr m u (pc + 3) ls st (M.1, M.2.1, x_upL M.2.2.1 (64 * o + j) v, M.2.2.2) Q) : X scr m u pc ls (.long v :: .ref o :: st) M Q := by
  have hN := x_N64 ci hf.1
  have hj := hf.2.1
  have hlt := x_lt_of ho
  refine x_putG ci j (M.2.1, x_upL M.2.2.1 (64 * o + j) v, M.2.2.2) hd hf ho hfin (fun ad => by rw [hty]; rfl) (fun ad => by rw [hty]; rfl) (fun r hr => ⟨rfl, by simp only [x_upL, if_neg hr], rfl⟩) ?_ (fun h => ⟨h.1, h.2.1, fun r hr => ⟨(h.2.2.1 r hr).1, ?_, (h.2.2.1 r hr).2.2⟩, h.2.2.2⟩) K
  · rw [hty]
    simp [x_fa, x_upL]
  · have : r ≠ 64 * o + j := by have h0 : 64 * M.1.length ≤ r := hr; omega
    simp only [x_upL, if_neg this]
    exact (h.2.2.1 r hr).2.1
/-- putfield of a reference -/
theorem x_putr {scr : Option (Nat × (Nat → Int32))} {m : x_Mth} {u : Nat × Nat} {pc : Nat} {ls : List (Nat × Value)} {st : List Value} {M : x_M} {Q : Option Value → x_M → Prop} {idx : Nat} (ci j : Nat) {o k : Nat} (hd : decode (x_code m) pc = .ok (.putfield idx, 3)) (hf : x_FL (x_own m) idx ci j) (ho : M.1[o]? = some (0, ci)) (hty : (∃ C, x_ty ci j = .object C) ∨ ∃ t, x_ty ci j = .array t) (hk : k < M.1.length)
    (hfin : (x_T ci j).2.2.2 = false ∨ ((x_y m).name = "<init>" ∧ x_R ci = x_own m)) (K : X scr m u (pc + 3) ls st (M.1, M.2.1, M.2.2.1, x_upR M.2.2.2 (64 * o + j) (some k)) Q) : X scr m u pc ls (.ref k :: .ref o :: st) M Q := by
  have hN := x_N64 ci hf.1
  have hj := hf.2.1
  have hlt := x_lt_of ho
  refine x_putG ci j (M.2.1, M.2.2.1, x_upR M.2.2.2 (64 * o + j) (some k)) hd hf ho hfin (fun ad => by rcases hty with ⟨_, h⟩ | ⟨_, h⟩ <;> rw [h] <;> rfl) (fun ad => by rcases hty with ⟨_, h⟩ | ⟨_, h⟩ <;> rw [h] <;> rfl) (fun r hr => ⟨rfl, rfl, by simp only [x_upR, if_neg hr]⟩) ?_ (fun h => ⟨h.1, fun r k' h' => ?_, fun r hr => ⟨(h.2.2.1 r hr).1, (h.2.2.1 r hr).2.1, ?_⟩, h.2.2.2⟩) K
  · rcases hty with ⟨_, h⟩ | ⟨_, h⟩ <;> rw [h] <;> simp [x_fa, x_upR]
  · by_cases hr : r = 64 * o + j
    · subst hr
      simp [x_upR] at h'
      subst h'
      exact hk
    · simp only [x_upR, if_neg hr] at h'
      exact h.2.1 r k' h'
  · have : r ≠ 64 * o + j := by have h0 : 64 * M.1.length ≤ r := hr; omega
    simp only [x_upR, if_neg this]
    exact (h.2.2.1 r hr).2.2
theorem x_iald {scr : Option (Nat × (Nat → Int32))} {m : x_Mth} {u : Nat × Nat} {pc : Nat} {ls : List (Nat × Value)} {st : List Value} {M : x_M} {Q : Option Value → x_M → Prop} {o n : Nat} {i : Int32} (hd : decode (x_code m) pc = .ok (.iaload, 1)) (ho : M.1[o]? = some (1, n)) (hin : vp_in i n) (K : X scr m u (pc + 1) ls (.int (M.2.1 (64 * o) i.toNatClampNeg) :: st) M Q) : X scr m u pc ls (.int i :: .ref o :: st) M Q := by
  intro p l e s mi args below meth c D cI cZ A ae al H locs lx Z C R hl hret h1 h2
  exact va_iald C.1 C.2.1 C.2.2.2.2.2.2.2.2.1 R.1 o 0 (x_ws_get ho) rfl hin hd (K p l e s mi args below meth c D cI cZ A ae al H locs lx Z C R hl hret h1 h2)
theorem x_zald {scr : Option (Nat × (Nat → Int32))} {m : x_Mth} {u : Nat × Nat} {pc : Nat} {ls : List (Nat × Value)} {st : List Value} {M : x_M} {Q : Option Value → x_M → Prop} {o n : Nat} {i : Int32} (hd : decode (x_code m) pc = .ok (.baload, 1)) (ho : M.1[o]? = some (2, n)) (hin : vp_in i n) (K : X scr m u (pc + 1) ls (.int (M.2.1 (64 * o) i.toNatClampNeg) :: st) M Q) : X scr m u pc ls (.int i :: .ref o :: st) M Q := by
  intro p l e s mi args below meth c D cI cZ A ae al H locs lx Z C R hl hret h1 h2
  exact va_zald C.1 C.2.1 C.2.2.2.2.2.2.2.2.1 R.1 o 1 (x_ws_get ho) rfl hin hd (K p l e s mi args below meth c D cI cZ A ae al H locs lx Z C R hl hret h1 h2)
theorem x_alen {scr : Option (Nat × (Nat → Int32))} {m : x_Mth} {u : Nat × Nat} {pc : Nat} {ls : List (Nat × Value)} {st : List Value} {M : x_M} {Q : Option Value → x_M → Prop} {o n : Nat} {t : Nat} (v : Int32) (hd : decode (x_code m) pc = .ok (.arraylength, 1)) (ho : M.1[o]? = some (t + 1, n)) (hv : Int32.ofNat n = v) (K : X scr m u (pc + 1) ls (.int v :: st) M Q) : X scr m u pc ls (.ref o :: st) M Q := by
  intro p l e s mi args below meth c D cI cZ A ae al H locs lx Z C R hl hret h1 h2
  cases t with
  | zero => exact va_alen C.1 C.2.1 C.2.2.2.2.2.2.2.2.1 R.1 o 0 (x_ws_get ho) rfl hv hd (K p l e s mi args below meth c D cI cZ A ae al H locs lx Z C R hl hret h1 h2)
  | succ t => exact va_alen C.1 C.2.1 C.2.2.2.2.2.2.2.2.1 R.1 o 1 (x_ws_get ho) rfl hv hd (K p l e s mi args below meth c D cI cZ A ae al H locs lx Z C R hl hret h1 h2)
theorem x_ws_setA {cI cZ : ClassId} {ad : Nat → Nat} {M : x_M} {o t n i : Nat} {x : Int32} (hok : x_Ok M) (ho : M.1[o]? = some (t + 1, n)) :
    (x_ws cI cZ ad M).set o (ad o, x_ent cI cZ ad (x_up M.2.1 (64 * o) i x, M.2.2) o (t + 1, n)) = x_ws cI cZ ad (M.1, x_up M.2.1 (64 * o) i x, M.2.2) :=
  x_ws_set hok ho (fun r hr => ⟨by simp only [x_up, if_neg (show r ≠ 64 * o by omega)], rfl, rfl⟩) rfl
theorem x_iast {scr : Option (Nat × (Nat → Int32))} {m : x_Mth} {u : Nat × Nat} {pc : Nat} {ls : List (Nat × Value)} {st : List Value} {M : x_M} {Q : Option Value → x_M → Prop} {o n : Nat} {i x : Int32} (hd : decode (x_code m) pc = .ok (.iastore, 1)) (ho : M.1[o]? = some (1, n)) (hin : vp_in i n) (K : X scr m u (pc + 1) ls st (M.1, x_up M.2.1 (64 * o) i.toNatClampNeg x, M.2.2) Q) : X scr m u pc ls (.int x :: .int i :: .ref o :: st) M Q := by
  intro p l e s mi args below meth c D cI cZ A ae al H locs lx Z C R hl hret h1 h2
  obtain ⟨hP, hD, hS, hM⟩ := R
  have e1 := x_ws_setA (cI := cI) (cZ := cZ) (ad := x_ad al ae) (i := i.toNatClampNeg) (x := x) hM ho
  have e2 : x_ent cI cZ (x_ad al ae) (x_up M.2.1 (64 * o) i.toNatClampNeg x, M.2.2) o (0 + 1, n) = .inl (cI, n, .inl (upd (M.2.1 (64 * o)) i.toNatClampNeg x)) := by simp [x_ent, x_up]
  rw [e2] at e1
  refine va_iast C.1 C.2.1 C.2.2.2.2.2.2.2.2.1 hP hD hS o 0 (x_ws_get ho) rfl hin hd (fun H1 locs1 p1 d1 s1 => ?_)
  have hlt := x_lt_of ho
  exact K p l e s mi args below meth c D cI cZ A ae al H1 locs1 lx Z C ⟨e1 ▸ p1, e1 ▸ d1, s1, x_Ok_i hM (by omega)⟩ hl hret h1 h2
theorem x_nar01 {x : Int32} (h : x = 0 ∨ x = 1) : vp_nar .boolean x = x := by rcases h with rfl | rfl <;> rfl
theorem x_zast {scr : Option (Nat × (Nat → Int32))} {m : x_Mth} {u : Nat × Nat} {pc : Nat} {ls : List (Nat × Value)} {st : List Value} {M : x_M} {Q : Option Value → x_M → Prop} {o n : Nat} {i x : Int32} (hd : decode (x_code m) pc = .ok (.bastore, 1)) (ho : M.1[o]? = some (2, n)) (hin : vp_in i n) (h01 : x = 0 ∨ x = 1) (K : X scr m u (pc + 1) ls st (M.1, x_up M.2.1 (64 * o) i.toNatClampNeg x, M.2.2) Q) : X scr m u pc ls (.int x :: .int i :: .ref o :: st) M Q := by
  intro p l e s mi args below meth c D cI cZ A ae al H locs lx Z C R hl hret h1 h2
  obtain ⟨hP, hD, hS, hM⟩ := R
  have e1 := x_ws_setA (cI := cI) (cZ := cZ) (ad := x_ad al ae) (i := i.toNatClampNeg) (x := x) hM ho
  have e2 : x_ent cI cZ (x_ad al ae) (x_up M.2.1 (64 * o) i.toNatClampNeg x, M.2.2) o (1 + 1, n) = .inl (cZ, n, .inl (upd (M.2.1 (64 * o)) i.toNatClampNeg (vp_nar .boolean x))) := by rw [x_nar01 h01]; simp [x_ent, x_up]
  rw [e2] at e1
  refine va_zast C.1 C.2.1 C.2.2.2.2.2.2.2.2.1 hP hD hS o 1 (x_ws_get ho) rfl hin hd (fun H1 locs1 p1 d1 s1 => ?_)
  have hlt := x_lt_of ho
  exact K p l e s mi args below meth c D cI cZ A ae al H1 locs1 lx Z C ⟨e1 ▸ p1, e1 ▸ d1, s1, x_Ok_i hM (by omega)⟩ hl hret h1 h2
