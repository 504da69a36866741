/-! ===== THE PURE MACHINE. A world is a list of shapes (0, c: an object of class c; 1, n: an int array; 2, n: a boolean array); what is in it: ints by region and place, longs and references by region. The region of object k's field j is 64 * k + j (place 0), that of array k is 64 * k. A reference is a number: below 1000000 a place in the list of shapes, from there on something that lay there before (texts, the script). ===== -/
abbrev x_M : Type := List (Nat × Nat) × (Nat → Nat → Int32) × (Nat → Int64) × (Nat → Option Nat)
/-- a method: its class, name, code, locals, answer; the room that it asks: frames, words of locals, cells, slots -/
abbrev x_Mth : Type := String × MethodName × ByteArray × Nat × Option FieldType × Nat × Nat × Nat × Nat
abbrev x_own (m : x_Mth) : String := m.1
abbrev x_y (m : x_Mth) : MethodName := m.2.1
abbrev x_code (m : x_Mth) : ByteArray := m.2.2.1
abbrev x_maxL (m : x_Mth) : Nat := m.2.2.2.1
abbrev x_ret (m : x_Mth) : Option FieldType := m.2.2.2.2.1
abbrev x_fr (m : x_Mth) : Nat := m.2.2.2.2.2.1
abbrev x_lo (m : x_Mth) : Nat := m.2.2.2.2.2.2.1
abbrev x_mc (m : x_Mth) : Nat := m.2.2.2.2.2.2.2.1
abbrev x_ms (m : x_Mth) : Nat := m.2.2.2.2.2.2.2.2
def x_room (m : x_Mth) : Room := { frames := x_fr m, cells := x_mc m, slots := x_ms m, locals := x_lo m }
def x_ad (al ae : Nat → Nat) : Nat → Nat := fun k => if k < 1000000 then al k else ae k
def x_cv (ad : Nat → Nat) : Value → Value
  | .ref k => .ref (ad k)
  | v => v
theorem x_cv_cat (ad : Nat → Nat) (v : Value) : (x_cv ad v).category = v.category := by cases v <;> rfl
def x_lp (ad : Nat → Nat) (ls : List (Nat × Value)) : List (Nat × Value) := ls.map fun q => (q.1, x_cv ad q.2)
/-- a field's value, by its type -/
def x_fa (ty : FieldType) (K : (Nat → Nat → Int32) × (Nat → Int64) × (Nat → Option Nat)) (r : Nat) : Value := match ty with
  | .long => .long (K.2.1 r)
  | .object _ => (match K.2.2 r with | none => .null | some k => .ref k)
  | .array _ => (match K.2.2 r with | none => .null | some k => .ref k)
  | _ => .int (K.1 r 0)
def x_ent (cI cZ : ClassId) (ad : Nat → Nat) (K : (Nat → Nat → Int32) × (Nat → Int64) × (Nat → Option Nat)) (k : Nat) (q : Nat × Nat) : va_E := match q.1 with
  | 0 => .inr (q.2, (List.range (x_N q.2)).map fun j => x_cv ad (x_fa (x_ty q.2 j) K (64 * k + j)))
  | 1 => .inl (cI, q.2, .inl (K.1 (64 * k)))
  | _ => .inl (cZ, q.2, .inl (K.1 (64 * k)))
def x_ws (cI cZ : ClassId) (ad : Nat → Nat) (M : x_M) : va_W := M.1.mapIdx fun k q => (ad k, x_ent cI cZ ad M.2 k q)
theorem x_ws_get {cI cZ : ClassId} {ad : Nat → Nat} {M : x_M} {k : Nat} {q : Nat × Nat} (h : M.1[k]? = some q) : (x_ws cI cZ ad M)[k]? = some (ad k, x_ent cI cZ ad M.2 k q) := by
  simp [x_ws, List.getElem?_mapIdx, h]
/-- what every world keeps: few shapes of known classes; references lead to shapes; nothing lies beyond -/
def x_Ok (M : x_M) : Prop := M.1.length < 1000000 ∧ (∀ r k, M.2.2.2 r = some k → k < M.1.length) ∧ (∀ r, 64 * M.1.length ≤ r → M.2.1 r = (fun _ => 0) ∧ M.2.2.1 r = 0 ∧ M.2.2.2 r = none) ∧ ∀ k c : Nat, M.1[k]? = some (0, c) → c < 10
def x_Rep (D : va_G) (cI cZ : ClassId) (A : Nat → Prop) (ad : Nat → Nat) (M : x_M) (H0 H : Heap) (locs : List Loc) : Prop :=
  va_P D vwCl (x_ws cI cZ ad M) H ∧ va_D A (x_ws cI cZ ad M) ∧ va_S A H0 H locs ∧ x_Ok M
/-- what lay there before: the two texts (1000000, 1000001), their bytes (1000010, 1000011), a static -/
def x_Ext (ae : Nat → Nat) (A : Nat → Prop) (U : State) (H : Heap) : Prop :=
  vk_R RX8 68 "nodes" (ae 1000000) U ∧ vk_R RX8 76 "link" (ae 1000001) U ∧ vk_S 2 [5, 4] [[110, 111, 100, 101, 115], [108, 105, 110, 107]] (fun i => ae (1000000 + i)) (fun i => ae (1000010 + i)) A U H ∧ va_Z "java/lang/String" "COMPACT_STRINGS" "Z" (.int 1) A U H ∧ va_Nw (.methodLinkNest "HeaderWays" 9 ⟨"HeaderWays$Net", "<init>", "()V"⟩ "HeaderWays") U ∧
  (va_Z "jdk/internal/util/Preconditions" "SIOOBE_FORMATTER" "Ljava/util/function/BiFunction;" .null A U H ∨ va_Z "jdk/internal/util/Preconditions" "SIOOBE_FORMATTER" "Ljava/util/function/BiFunction;" (.ref (ae 1000030)) A U H)
theorem x_Ext.kept {ae : Nat → Nat} {A : Nat → Prop} {U : State} {H H1 : Heap} (h : x_Ext ae A U H) (hq : ∀ a : Nat, a < H.size → ¬ A a → H1[a]? = H[a]?) : x_Ext ae A U H1 :=
  ⟨h.1, h.2.1, h.2.2.1.kept hq, h.2.2.2.1.kept hq, h.2.2.2.2.1, h.2.2.2.2.2.elim (fun z => Or.inl (z.kept hq)) (fun z => Or.inr (z.kept hq))⟩
theorem x_Ext.narrow {ae : Nat → Nat} {A B : Nat → Prop} {U : State} {H : Heap} (h : x_Ext ae A U H) (hAB : ∀ q, B q → A q) : x_Ext ae B U H :=
  ⟨h.1, h.2.1, h.2.2.1.narrow hAB, h.2.2.2.1.narrow hAB, h.2.2.2.2.1, h.2.2.2.2.2.elim (fun z => Or.inl (z.narrow hAB)) (fun z => Or.inr (z.narrow hAB))⟩
theorem x_Ext.warm {ae : Nat → Nat} {A : Nat → Prop} {s U : State} {H : Heap} (h : x_Ext ae A s H) (hW : s.WarmedH U.vm) : x_Ext ae A U H :=
  ⟨h.1.warm hW, h.2.1.warm hW, h.2.2.1.moved hW.alike, h.2.2.2.1.moved hW.alike, va_Nw.warmM hW h.2.2.2.2.1, h.2.2.2.2.2.elim (fun z => Or.inl (z.moved hW.alike)) (fun z => Or.inr (z.moved hW.alike))⟩
theorem x_Ext.same {ae : Nat → Nat} {A : Nat → Prop} {s U : State} {H : Heap} (h : x_Ext ae A s H) (hv : U.vm = s.vm) : x_Ext ae A U H := by
  have ha : s.vm.Alike U.vm := by rw [hv]; exact Vm.Alike.refl _
  exact ⟨h.1.same hv, h.2.1.same hv, h.2.2.1.moved ha, h.2.2.2.1.moved ha, va_Nw.same rfl hv.symm h.2.2.2.2.1, h.2.2.2.2.2.elim (fun z => Or.inl (z.moved ha)) (fun z => Or.inr (z.moved ha))⟩
/-- what holds all through a method: the machine, its code, the words, the classes, what lay there before; a script, where it is the law (1000020) -/
def x_Ctx (scr : Option (Nat × (Nat → Int32))) (m : x_Mth) (p : Program) (s : State) (mi : MethodId) (args : Array Value) (meth : Method) (c : Code) (D : va_G) (cI cZ : ClassId) (A : Nat → Prop) (ae : Nat → Nat) : Prop :=
  p.tables.exec = Jvm.exec ∧ c.code = x_code m ∧ c.maxLocals = x_maxL m ∧ meth.sig.returnType = x_ret m ∧ meth.locks = false ∧ s.vm.findClass (x_own m) = some mi.cls ∧ meth.name = (x_y m).name ∧
  (∀ w ∈ x_GW, w.before args s = true) ∧ va_K D vwCl [(cI, .int), (cZ, .boolean)] s ∧ (∀ q, s.heap.size ≤ q → A q) ∧ x_Ext ae A s s.heap ∧ (∀ L xs, scr = some (L, xs) → va_X (ae 1000020) L xs s s.heap ∧ ae 1000020 < s.heap.size ∧ ¬ A (ae 1000020))
/-- the instruction at the end, for an answer -/
def x_retI (cc : ByteArray) (pc : Nat) (ret : Option FieldType) : Option Value → Prop
  | none => decode cc pc = .ok (.return_, 1) ∧ ret = none
  | some (.int v) => decode cc pc = .ok (.ireturn, 1) ∧ ∃ ty, ret = some ty ∧ narrow ty (.int v) = .int v
  | some (.long _) => decode cc pc = .ok (.lreturn, 1) ∧ ret = some .long
  | _ => False
/-- from a place of the method, with locals, stack and world, it comes to an end with Q of the answer and the world -/
def X (scr : Option (Nat × (Nat → Int32))) (m : x_Mth) (u : Nat × Nat) (pc : Nat) (ls : List (Nat × Value)) (st : List Value) (M : x_M) (Q : Option Value → x_M → Prop) : Prop :=
  ∀ (p : Program) (l : Launch) (e : Env) (s : State) (mi : MethodId) (args : Array Value) (below : List Frame) (meth : Method) (c : Code) (D : va_G) (cI cZ : ClassId) (A : Nat → Prop) (ae al : Nat → Nat) (H : Heap) (locs : List Loc) (lx : Array Slot) (Z : State → Prop),
    x_Ctx scr m p s mi args meth c D cI cZ A ae → x_Rep D cI cZ A (x_ad al ae) M s.heap H locs → lv_has lx (x_maxL m) (x_lp (x_ad al ae) ls) →
    (∀ (r : Option Value) (M' : x_M) (al' : Nat → Nat) (H' : Heap) (locs' : List Loc) (lx' : Array Slot) (pc' uc us : Nat), Q r M' → x_Rep D cI cZ A (x_ad al' ae) M' s.heap H' locs' → (∀ k, k < M.1.length ∨ M'.1.length ≤ k → al' k = al k) → M.1.length ≤ M'.1.length → M'.1.length + u.1 ≤ M.1.length + x_mc m →
      x_retI (x_code m) pc' (x_ret m) r → uc ≤ x_mc m → us ≤ x_ms m → W p l e (x_room m) s mi args below meth c H' locs' uc us Z (F0 mi pc' lx' ((r.map (x_cv (x_ad al' ae))).toList))) →
    u.1 ≤ x_mc m → u.2 ≤ x_ms m →
    W p l e (x_room m) s mi args below meth c H locs u.1 u.2 Z (F0 mi pc lx (st.map (x_cv (x_ad al ae))))
theorem x_mono {scr : Option (Nat × (Nat → Int32))} {m : x_Mth} {u : Nat × Nat} {pc : Nat} {ls : List (Nat × Value)} {st : List Value} {M : x_M} {Q Q' : Option Value → x_M → Prop} (h : X scr m u pc ls st M Q) (hq : ∀ r M', Q r M' → Q' r M') : X scr m u pc ls st M Q' := by
  intro p l e s mi args below meth c D cI cZ A ae al H locs lx Z C R hl hret h1 h2
  exact h p l e s mi args below meth c D cI cZ A ae al H locs lx Z C R hl (fun r M' al' H' locs' lx' pc' uc us q => hret r M' al' H' locs' lx' pc' uc us (hq r M' q)) h1 h2
/-- fewer locals are enough -/
theorem x_sub {scr : Option (Nat × (Nat → Int32))} {m : x_Mth} {u : Nat × Nat} {pc : Nat} {ls ls' : List (Nat × Value)} {st : List Value} {M : x_M} {Q : Option Value → x_M → Prop} (ks : List Nat) (hk : lv_pick ls ks = ls') (h : X scr m u pc ls' st M Q) : X scr m u pc ls st M Q := by
  intro p l e s mi args below meth c D cI cZ A ae al H locs lx Z C R hl hret h1 h2
  refine h p l e s mi args below meth c D cI cZ A ae al H locs lx Z C R (lv_sub hl ks ?_) hret h1 h2
  subst hk
  simp only [lv_pick, x_lp, List.map_filterMap, List.getElem?_map]
/-- an instruction that touches neither world nor locals -/
theorem x_W {scr : Option (Nat × (Nat → Int32))} {m : x_Mth} {u : Nat × Nat} {pc pc' : Nat} {ls : List (Nat × Value)} {st st' : List Value} {M : x_M} {Q : Option Value → x_M → Prop}
    (hw : ∀ (p : Program) (l : Launch) (e : Env) (s : State) (mi : MethodId) (args : Array Value) (below : List Frame) (meth : Method) (c : Code) (H : Heap) (locs : List Loc) (lx : Array Slot) (Z : State → Prop) (ad : Nat → Nat), p.tables.exec = Jvm.exec → c.code = x_code m → lv_has lx (x_maxL m) (x_lp ad ls) → s.vm.findClass (x_own m) = some mi.cls → (∀ w ∈ x_GW, w.before args s = true) →
      W p l e (x_room m) s mi args below meth c H locs u.1 u.2 Z (F0 mi pc' lx (st'.map (x_cv ad))) → W p l e (x_room m) s mi args below meth c H locs u.1 u.2 Z (F0 mi pc lx (st.map (x_cv ad))))
    (K : X scr m u pc' ls st' M Q) : X scr m u pc ls st M Q := by
  intro p l e s mi args below meth c D cI cZ A ae al H locs lx Z C R hl hret h1 h2
  exact hw p l e s mi args below meth c H locs lx Z (x_ad al ae) C.1 C.2.1 hl C.2.2.2.2.2.1 C.2.2.2.2.2.2.2.1 (K p l e s mi args below meth c D cI cZ A ae al H locs lx Z C R hl hret h1 h2)
