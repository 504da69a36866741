/-! ===== what the statement gives of the start ===== -/
theorem x_insA : ∀ c, c < 10 → Cond.instantiable (x_R c) (x_N c) ∈ x_GW := by
  intro c hc
  rcases (show c = 0 ∨ c = 1 ∨ c = 2 ∨ c = 3 ∨ c = 4 ∨ c = 5 ∨ c = 6 ∨ c = 7 ∨ c = 8 ∨ c = 9 by omega) with rfl | rfl | rfl | rfl | rfl | rfl | rfl | rfl | rfl | rfl
  · exact x_ins0.1
  · exact x_ins1.1
  · exact x_ins2.1
  · exact x_ins3.1
  · exact x_ins4.1
  · exact x_ins5.1
  · exact x_ins6.1
  · exact x_ins7.1
  · exact x_ins8.1
  · exact x_ins9.1
theorem k_K {s : State} {args : Array Value} (hts : ∀ w ∈ x_GW, w.before args s = true) : ∃ (D : va_G) (cI cZ : ClassId), va_K D vwCl [(cI, .int), (cZ, .boolean)] s := by
  have h0 : ∀ c : Nat, ∃ q : ClassId × (Nat → Nat), c < 10 → u_Kn s (x_R c) (x_T c) (x_N c) q.1 q.2 := by
    intro c
    by_cases hc : c < 10
    · obtain ⟨cC, iS, h⟩ := u_known (ws := x_GW) (C := x_R c) (T := x_T c) (N := x_N c) (n := x_N c) hts (x_uw c hc) (hts _ (x_insA c hc))
      exact ⟨(cC, iS), fun _ => h⟩
    · exact ⟨(0, fun _ => 0), fun h => absurd h hc⟩
  obtain ⟨f, hf⟩ := Classical.axiomOfChoice h0
  obtain ⟨cI, kI, compI, i1, i2, i3⟩ := Cond.arrayClass_spec (hts _ x_arrI)
  obtain ⟨cZ, kZ, compZ, z1, z2, z3⟩ := Cond.arrayClass_spec (hts _ x_arrZ)
  refine ⟨(fun c => (f c).1, fun c => (f c).2), cI, cZ, fun c q hq => ?_, fun k q hk => ?_⟩
  · have hc : c < 10 := (List.getElem?_eq_some_iff.mp hq).1
    rw [x_cl c hc] at hq
    cases hq
    exact hf c hc
  · have hk2 : k < 2 := (List.getElem?_eq_some_iff.mp hk).1
    rcases (show k = 0 ∨ k = 1 by omega) with rfl | rfl
    · cases hk
      exact ⟨fun n z => ⟨fun k h => (by cases h), kI, i2, compI, i3⟩, i1⟩
    · cases hk
      exact ⟨fun n z => ⟨fun k h => (by cases h), kZ, z2, compZ, z3⟩, z1⟩
def k_tm (i : Nat) : Term := if i = 0 then .string RX8 68 else .string RX8 76
theorem k_two {P : Nat → Prop} (h0 : P 0) (h1 : P 1) : ∀ i, i < 2 → P i := by
  intro i hi
  rcases (show i = 0 ∨ i = 1 by omega) with rfl | rfl
  · exact h0
  · exact h1
theorem k_ext {s : State} {b : Nat} (hts : ∀ w ∈ lw_tbl, w.before #[Value.ref b] s = true) (hgv : (Jvm.Cond.and given_1 narrow_1).before #[Value.ref b] s = true) {A : Nat → Prop} (hA : ∀ a : Nat, a < s.heap.size → ¬ A a) : ∃ ae : Nat → Nat, ae 1000020 = b ∧ x_Ext ae A s s.heap := by
  have hs := flat_of_before _ hgv
  obtain ⟨adK, adV, hS, hR⟩ := vk_Sof (args := #[Value.ref b]) (s := s) (N := 2) (tm := k_tm) (len := [5, 4]) (byt := [[110, 111, 100, 101, 115], [108, 105, 110, 107]]) (A := A)
    (k_two (by decide) (by decide))
    (k_two (hs (Cond.exactly (.string "HeaderWays$Text" 68) "java/lang/String") (by decide +kernel)) (hs (Cond.exactly (.string "HeaderWays$Text" 76) "java/lang/String") (by decide +kernel)))
    (k_two (hs (Cond.eq (.field (.string "HeaderWays$Text" 68) "java/lang/String" "coder" "B") (.int 0)) (by decide +kernel)) (hs (Cond.eq (.field (.string "HeaderWays$Text" 76) "java/lang/String" "coder" "B") (.int 0)) (by decide +kernel)))
    (k_two (hs (Cond.arrayOf (.field (.string "HeaderWays$Text" 68) "java/lang/String" "value" "[B") .byte) (by decide +kernel)) (hs (Cond.arrayOf (.field (.string "HeaderWays$Text" 76) "java/lang/String" "value" "[B") .byte) (by decide +kernel)))
    (k_two (hs (Cond.eq (.length (.field (.string "HeaderWays$Text" 68) "java/lang/String" "value" "[B")) (.int 5)) (by decide +kernel)) (hs (Cond.eq (.length (.field (.string "HeaderWays$Text" 76) "java/lang/String" "value" "[B")) (.int 4)) (by decide +kernel)))
    (k_two (fun j hj => by
        have hj' : j < 5 := hj
        rcases (show j = 0 ∨ j = 1 ∨ j = 2 ∨ j = 3 ∨ j = 4 by omega) with rfl | rfl | rfl | rfl | rfl
        · exact hs (Cond.eq (.elem (.field (.string "HeaderWays$Text" 68) "java/lang/String" "value" "[B") (.int 0)) (.int 110)) (by decide +kernel)
        · exact hs (Cond.eq (.elem (.field (.string "HeaderWays$Text" 68) "java/lang/String" "value" "[B") (.int 1)) (.int 111)) (by decide +kernel)
        · exact hs (Cond.eq (.elem (.field (.string "HeaderWays$Text" 68) "java/lang/String" "value" "[B") (.int 2)) (.int 100)) (by decide +kernel)
        · exact hs (Cond.eq (.elem (.field (.string "HeaderWays$Text" 68) "java/lang/String" "value" "[B") (.int 3)) (.int 101)) (by decide +kernel)
        · exact hs (Cond.eq (.elem (.field (.string "HeaderWays$Text" 68) "java/lang/String" "value" "[B") (.int 4)) (.int 115)) (by decide +kernel))
      (fun j hj => by
        have hj' : j < 4 := hj
        rcases (show j = 0 ∨ j = 1 ∨ j = 2 ∨ j = 3 by omega) with rfl | rfl | rfl | rfl
        · exact hs (Cond.eq (.elem (.field (.string "HeaderWays$Text" 76) "java/lang/String" "value" "[B") (.int 0)) (.int 108)) (by decide +kernel)
        · exact hs (Cond.eq (.elem (.field (.string "HeaderWays$Text" 76) "java/lang/String" "value" "[B") (.int 1)) (.int 105)) (by decide +kernel)
        · exact hs (Cond.eq (.elem (.field (.string "HeaderWays$Text" 76) "java/lang/String" "value" "[B") (.int 2)) (.int 110)) (by decide +kernel)
        · exact hs (Cond.eq (.elem (.field (.string "HeaderWays$Text" 76) "java/lang/String" "value" "[B") (.int 3)) (.int 107)) (by decide +kernel)))
    (fun i j hi hj hij => by
      have hne := hs (Cond.not (Cond.eq (.string "HeaderWays$Text" 68) (.string "HeaderWays$Text" 76))) (by decide +kernel)
      rcases (show (i = 0 ∧ j = 1) ∨ (i = 1 ∧ j = 0) by omega) with ⟨rfl, rfl⟩ | ⟨rfl, rfl⟩
      · exact Or.inl hne
      · exact Or.inr hne)
    hA
  have hw1 : (Cond.stringRef RX8 68 "nodes").before #[Value.ref b] s = true := hts _ (List.mem_of_getElem? (i := 430) (by decide +kernel))
  have hw2 : (Cond.stringRef RX8 76 "link").before #[Value.ref b] s = true := hts _ (List.mem_of_getElem? (i := 495) (by decide +kernel))
  have hw3 : (Cond.laysStatic "java/lang/String" "COMPACT_STRINGS" "Z").before #[Value.ref b] s = true := hts _ (List.mem_of_getElem? (i := 444) (by decide +kernel))
  have hw4 : (Cond.initialized "java/lang/String").before #[Value.ref b] s = true := hts _ (List.mem_of_getElem? (i := 42) (by decide +kernel))
  have hw5 : (Cond.laysStatic "jdk/internal/util/Preconditions" "SIOOBE_FORMATTER" "Ljava/util/function/BiFunction;").before #[Value.ref b] s = true := hts _ (List.mem_of_getElem? (i := 460) (by decide +kernel))
  have hw6 : (Cond.initialized "jdk/internal/util/Preconditions").before #[Value.ref b] s = true := hts _ (List.mem_of_getElem? (i := 44) (by decide +kernel))
  have hw7 : (Cond.methodLinkNest "HeaderWays" 9 ⟨"HeaderWays$Net", "<init>", "()V"⟩ "HeaderWays").before #[Value.ref b] s = true := hts _ (List.mem_of_getElem? (i := 58) (by decide +kernel))
  have hc : va_Z "java/lang/String" "COMPACT_STRINGS" "Z" (.int 1) A s s.heap := va_Zof hw3 hw4 (va_eqi (hs (Cond.eq (.static "java/lang/String" "COMPACT_STRINGS" "Z") (.int 1)) (by decide +kernel))) hA
  have hf : va_Zq "jdk/internal/util/Preconditions" "SIOOBE_FORMATTER" "Ljava/util/function/BiFunction;" A s s.heap := va_Zqof hw5 hw6 (hs (Cond.isRef (.static "jdk/internal/util/Preconditions" "SIOOBE_FORMATTER" "Ljava/util/function/BiFunction;")) (by decide +kernel)) hA
  have key : ∀ t : Nat, (va_Z "jdk/internal/util/Preconditions" "SIOOBE_FORMATTER" "Ljava/util/function/BiFunction;" .null A s s.heap ∨ va_Z "jdk/internal/util/Preconditions" "SIOOBE_FORMATTER" "Ljava/util/function/BiFunction;" (.ref t) A s s.heap) → ∃ ae : Nat → Nat, ae 1000020 = b ∧ x_Ext ae A s s.heap := by
    intro t ht
    refine ⟨fun k => if k = 1000020 then b else if k = 1000030 then t else if k = 1000000 then adK 0 else if k = 1000001 then adK 1 else if k = 1000010 then adV 0 else adV 1, rfl, vk_R.of hw1 (hR 0 (by decide)), vk_R.of hw2 (hR 1 (by decide)), ⟨k_two (hS.1 0 (by decide)) (hS.1 1 (by decide)), fun i j hi hj e => ?_⟩, hc, va_Nw.of rfl hw7, ht⟩
    refine hS.2 i j hi hj ?_
    rcases (show i = 0 ∨ i = 1 by omega) with rfl | rfl <;> rcases (show j = 0 ∨ j = 1 by omega) with rfl | rfl <;> exact e
  rcases hf with h | ⟨t, h⟩
  · exact key 0 (Or.inl h)
  · exact key t (Or.inr h)
