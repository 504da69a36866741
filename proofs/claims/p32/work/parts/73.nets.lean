/-! ===== a net by cells, told in a text ===== -/
theorem Cl.setG {S : q_S} {I I' : Nat → Nat → Int32} (h : Cl I S) (s : Sm [3136] I I') : Cl I' (uG S (I' 3136)) := by
  obtain ⟨h1, h2, h3, h4, h5, h6, h7, h8, h9⟩ := h
  exact ⟨h1, qNe_ag h2 (s.ag (by decide)), h3.ag (s.ag (by decide)), h4.ag (s.ag (by decide)), h5.ag (s.ag (by decide)), h6.ag (s.ag (by decide)), h7.ag (s.ag (by decide)), h8.ag (s.ag (by decide)), rfl⟩
theorem Cl.gg {S : q_S} {I : Nat → Nat → Int32} (h : Cl I S) : I 3136 = sG S := h.2.2.2.2.2.2.2.2
/-- the net told: nothing else is left of what was -/
def q_new (S : q_S) : Prop := gR (sG S) S.1.1 S.1.2.1 S.1.2.2.1 S.1.2.2.2.1 ∧ (sF S) = [] ∧ (sW S).1 = 0 ∧ sP S = false ∧ (sA S).1 = 0 ∧ sL S = q_L0 ∧ sT S = []
def q_tau (σ : g_St) (n : Nat) (B : List q_4) : g_St := (B.map (fun q => (Sum.inr q : g_Cl))).foldl g_ap (g_ap σ (.inl n))
theorem q_tau_snoc (σ : g_St) (n : Nat) (B : List q_4) (q : q_4) : q_tau σ n (B ++ [q]) = g_ap (q_tau σ n B) (.inr q) := by
  unfold q_tau
  rw [List.map_append, List.foldl_append]
  rfl
theorem q_txt_snoc (n : Nat) (B : List q_4) (q : q_4) : q_txt n (B ++ [q]) = q_txt n B ++ q_enc q := by
  unfold q_txt
  rw [q_bod_snoc, List.append_assoc]
theorem q_inv_0 (σ : g_St) {n : Nat} {G : Nat → Int32} (h : g_okS σ) (hn : 2 ≤ n ∧ n ≤ 8) (h0 : G 0 = nI n) (h1 : G 1 = nI 0) : q_inv (q_tau σ n []) G ∧ (q_tau σ n []).1 = n ∧ (q_tau σ n []).2.1 = 0 := by
  have hok := (g_ap_ok (cl := .inl n) h hn (by show ([] : List (Nat × Nat)).length ≤ 14; simp)).1
  obtain ⟨m, ln, lo, hi, c0, c1, U, seen⟩ := σ
  exact ⟨⟨hok, ⟨h0, h1, fun l hl => absurd hl (Nat.not_lt_zero l)⟩, fun i => by show (0 : Nat).testBit i = decide (i < 0); simp, fun u => rfl⟩, rfl, rfl⟩
set_option maxHeartbeats 4000000 in
theorem l_nets {S : q_S} {Ln : Nat} {xs : Nat → Int32} {I : Nat → Nat → Int32} {L : Nat → Int64} {Q : Option Value → (Nat → Nat → Int32) → (Nat → Int64) → Prop} (hL : Ln ≤ 260) (h : Cl I S) (K : ∀ (I' : Nat → Nat → Int32) (L' : Nat → Int64) (S' : q_S), q_new S' → Cl I' S' → Q (some (.int 1)) I' L') : XT (0, 0) Ln xs mL_nets 0 [(0, .ref 0), (1, .ref 49), (2, .ref 1000020), (3, .int 0)] [] I L Q := by
  have hokS := h.1
  have hS : Cl I (uT S (sT S)) := h
  refine bL_nets_0 (l_cell 0 rfl (by decide) hL (fun v => bL_nets_6 (l_part 7 rfl (by decide) (by decide) (fun r hr => bL_nets_11 ?_))))
  rw [show (2 : Int32) + nI r = nI (2 + r) from nI_add 2 r]
  obtain ⟨n, hn, hn2⟩ : ∃ n, 2 + r = n ∧ (2 ≤ n ∧ n ≤ 8) := ⟨2 + r, rfl, by omega⟩
  rw [hn]
  refine l_cell 0 rfl (by decide) hL (fun v2 => bL_nets_19 (l_part 15 rfl (by decide) (by decide) (fun m hm => bL_nets_26 ?_)))
  -- the loop over the links
  have loop : ∀ d k I L (B : List q_4) (G : Nat → Int32), k + d = m → B.length ≤ k → (∀ p, p ∈ B → q_ok n p) → q_inv (q_tau S.1 n B) G → (q_tau S.1 n B).1 = n → (q_tau S.1 n B).2.1 ≤ B.length → Cl I (uT (uG S G) (q_txt n B)) → XT (0, 0) Ln xs mL_nets 72 [(0, .ref 0), (1, .ref 49), (2, .ref 1000020), (3, .int 0), (4, .int (nI n)), (5, .int (nI m)), (6, .int (nI k))] [] I L Q := by
    intro d
    induction d with
    | zero =>
      intro k I L B G hk hB hq hv hn1 hlB h
      refine bL_nets_72 (fun _ => bL_nets_347 ?_) (fun q => absurd ((i_le m k rfl rfl (by omega) (by omega)).mpr (by omega)) q)
      have hps := oFt_txt (σ := S.1) hn2 hq (by omega)
      refine k_fault (S := uG S G) none (by show (oFt S.1 (q_txt n B)).1 = none; rw [hps]) h (fun I L h => bL_nets_351 (fun q => absurd rfl q) (fun _ => bL_nets_355 ?_))
      refine k_tell (S := uG S G) (.inl n :: B.map .inr) hps rfl h (fun I L mm W H hok h => bL_nets_359 (fun q => ?_) (fun _ => bL_nets_362 ?_))
      · have := (i_le (B.map (fun q => (Sum.inr q : g_Cl))).length.succ 0 rfl rfl (by rw [List.length_map]; omega) (by decide)).mp q
        omega
      have e : (Sum.inl n :: B.map .inr : List g_Cl).foldl g_ap S.1 = q_tau S.1 n B := rfl
      have h : Cl I (q_tau S.1 n B, [], (0, W), false, (0, H), q_L0, [], G) := h
      obtain ⟨hv1, hv2, hv3, hv4⟩ := id hv
      refine k_count 0 rfl (by decide) h (fun I L h => bL_nets_367 (fun q => absurd (congrArg nI hn1) q) (fun _ => bL_nets_372 ?_))
      refine k_count 1 rfl (by decide) h (fun I L h => bL_nets_377 (fun q => ?_) (fun _ => bL_nets_383 ?_))
      · rw [h.gg] at q
        exact absurd hv2.2.1.symm q
      refine k_count 2 rfl (by decide) h (fun I L h => bL_nets_388 (fun q => ?_) (fun _ => bL_nets_394 ?_))
      · rw [h.gg] at q
        refine absurd ?_ q
        show nI (g_pc 32 (q_tau S.1 n B).2.2.2.2.2.2.1) = G 1
        rw [q_inv_up hv, hv2.2.1]
      refine k_count 3 rfl (by decide) h (fun I L h => bL_nets_399 (fun q => ?_) (fun _ => bL_nets_402 ?_))
      · refine absurd ?_ q
        show nI (g_pc 32 (g_bh (q_tau S.1 n B).1 (q_tau S.1 n B).2.2.2.2.2.2.1 (q_tau S.1 n B).2.2.2.2.2.2.2)) = 0
        rw [g_bh_0 (fun u _ => hv4 u), g_pc_0]
        rfl
      refine k_count 12 rfl (by decide) h (fun I L h => bL_nets_408 (fun q => absurd rfl q) (fun _ => bL_nets_411 (bL_nets_416 (Or.inr rfl) (K I L _ ?_ h))))
      exact ⟨hv2, rfl, rfl, rfl, rfl, rfl, rfl⟩
    | succ d ih =>
      intro k I L B G hk hB hq hv hn1 hlB h
      have back : ∀ I L, (∃ (B : List q_4) (G : Nat → Int32), B.length ≤ k + 1 ∧ (∀ p, p ∈ B → q_ok n p) ∧ q_inv (q_tau S.1 n B) G ∧ (q_tau S.1 n B).1 = n ∧ (q_tau S.1 n B).2.1 ≤ B.length ∧ Cl I (uT (uG S G) (q_txt n B))) → XT (0, 0) Ln xs mL_nets 341 [(0, .ref 0), (1, .ref 49), (2, .ref 1000020), (3, .int 0), (4, .int (nI n)), (5, .int (nI m)), (6, .int (nI k))] [] I L Q := by
        rintro I L ⟨B, G, a1, a2, a3, a4, a5, a6⟩
        refine bL_nets_341 ?_
        rw [nI_1]
        exact ih (k + 1) I L B G (by omega) a1 a2 a3 a4 a5 a6
      refine bL_nets_72 (fun q => ?_) (fun _ => bL_nets_79 ?_)
      · have := (i_le m k rfl rfl (by omega) (by omega)).mp q; omega
      rw [show (0 : Int32) + 1 + nI k = nI (1 + k) from nI_add 1 k]
      refine l_cell (1 + k) rfl (by omega) hL (fun x => bL_nets_89 (l_part n rfl (by omega) (by omega) (fun u hu => bL_nets_98 (l_part n rfl (by omega) (by omega) (fun v0 hv0 => bL_nets_109 (l_part 3 rfl (by decide) (by decide) (fun t ht => ?_)))))))
      have go : ∀ v, v < n → XT (0, 0) Ln xs mL_nets 132 [(0, .ref 0), (1, .ref 49), (2, .ref 1000020), (3, .int 0), (4, .int (nI n)), (5, .int (nI m)), (6, .int (nI k)), (7, .int x), (8, .int (nI u)), (9, .int (nI v))] [] I L Q := by
        intro v hvn
        -- the cost
        have goD : ∀ c, 1 ≤ c ∧ c ≤ 9 → XT (0, 0) Ln xs mL_nets 159 [(0, .ref 0), (1, .ref 49), (2, .ref 1000020), (3, .int 0), (4, .int (nI n)), (5, .int (nI m)), (6, .int (nI k)), (7, .int x), (8, .int (nI u)), (9, .int (nI v))] [.int (nI (c - 1)), .int 1] I L Q := by
          intro c hc
          refine bL_nets_159 ?_
          rw [show (1 : Int32) + nI (c - 1) = nI c from (nI_add 1 (c - 1)).trans (congrArg nI (by omega))]
          -- the delay
          have goE : ∀ d, 1 ≤ d ∧ d ≤ 9 → XT (0, 0) Ln xs mL_nets 189 [(0, .ref 0), (1, .ref 49), (2, .ref 1000020), (3, .int 0), (4, .int (nI n)), (5, .int (nI m)), (6, .int (nI k)), (8, .int (nI u)), (9, .int (nI v)), (10, .int (nI c))] [.int (nI (d - 1)), .int 1] I L Q := by
            intro d hd
            refine bL_nets_189 (fun huv => ?_) (fun _ => bL_nets_199 (back I L ⟨B, G, by omega, hq, hv, hn1, hlB, h⟩))
            rw [show (1 : Int32) + nI (d - 1) = nI d from (nI_add 1 (d - 1)).trans (congrArg nI (by omega))]
            have huv' : u ≠ v := fun z => huv (by rw [z])
            have hqn : q_ok n (u, v, c, d) := ⟨hu, hvn, huv', hc, hd⟩
            have hlen := q_txt_len n B
            refine bL_nets_202 (l_says 59 108 105 110 rfl rfl rfl rfl (by decide) (by omega) h (fun I L h => bL_nets_214 ?_))
            refine l_says 107 (48 + u) 32 (48 + v) rfl (nI_add 48 u) rfl (nI_add 48 v) (by omega) (by rw [List.length_append]; show _ + 4 + 4 ≤ 200; omega) h (fun I L h => bL_nets_232 ?_)
            refine l_says 32 (48 + c) 32 (48 + d) rfl (nI_add 48 c) rfl (nI_add 48 d) (by omega) (by rw [List.length_append, List.length_append]; show _ + 4 + 4 + 4 ≤ 200; omega) h (fun I L h => bL_nets_250 ?_)
            have h : Cl I (uT (uG S G) (q_txt n (B ++ [(u, v, c, d)]))) := by
              have et : q_txt n (B ++ [(u, v, c, d)]) = ((q_txt n B ++ [59, 108, 105, 110]) ++ [107, 48 + u, 32, 48 + v]) ++ [32, 48 + c, 32, 48 + d] := by
                rw [q_txt_snoc, List.append_assoc, List.append_assoc]
                rfl
              rw [et]
              exact h
            have hN := (g_okS_E hv.1).2.2.2
            have hgR : gR (I 3136) (q_tau S.1 n B).1 (q_tau S.1 n B).2.1 (q_tau S.1 n B).2.2.1 (q_tau S.1 n B).2.2.2.1 := by rw [h.gg]; exact hv.2.1
            have hln : (q_tau S.1 n B).2.1 < 14 := by omega
            have hqn' : q_ok (q_tau S.1 n B).1 (u, v, c, d) := by rw [hn1]; exact hqn
            refine l_linkOf u v rfl rfl hN hgR (by omega) (by omega) ?_
            have hall : ∀ p, p ∈ B ++ [(u, v, c, d)] → q_ok n p := fun p hp => by
              rw [List.mem_append, List.mem_singleton] at hp
              rcases hp with hp | rfl
              · exact hq p hp
              · exact hqn
            have hlen1 : (B ++ [(u, v, c, d)]).length = B.length + 1 := by simp
            -- the costs are noted
            have note : ∀ l I L (G1 : Nat → Int32), l < 14 → Cl I (uT (uG S G1) (q_txt n (B ++ [(u, v, c, d)]))) → (∀ G', (∀ j, j ≠ 4 + 4 * l → j ≠ 5 + 4 * l → G' j = G1 j) → q_inv (q_tau S.1 n (B ++ [(u, v, c, d)])) G' ∧ (q_tau S.1 n (B ++ [(u, v, c, d)])).1 = n ∧ (q_tau S.1 n (B ++ [(u, v, c, d)])).2.1 ≤ (B ++ [(u, v, c, d)]).length) → XT (0, 0) Ln xs mL_nets 321 [(0, .ref 0), (1, .ref 49), (2, .ref 1000020), (3, .int 0), (4, .int (nI n)), (5, .int (nI m)), (6, .int (nI k)), (10, .int (nI c)), (11, .int (nI d)), (12, .int (nI l))] [] I L Q := by
              intro l I L G1 hl h hG
              have e4 : (4 : Int32) + (4 : Int32) * nI l = nI (4 + 4 * l) := i_4l 4 l
              have e5 : (5 : Int32) + (4 : Int32) * nI l = nI (5 + 4 * l) := i_4l 5 l
              refine bL_nets_321 (by rw [e4]; exact vp_in_nI (by omega) (by decide)) (by rw [e5]; exact vp_in_nI (by omega) (by decide)) ?_
              rw [e4, e5, nI_clamp (by omega), nI_clamp (by omega)]
              have s1 : Sm [3136] I (x_up (x_up I 3136 (4 + 4 * l) (nI c)) 3136 (5 + 4 * l) (nI d)) := (Sm.rf.up (by decide)).up (by decide)
              have a1 : ∀ j, j ≠ 4 + 4 * l → j ≠ 5 + 4 * l → (x_up (x_up I 3136 (4 + 4 * l) (nI c)) 3136 (5 + 4 * l) (nI d)) 3136 j = G1 j := fun j h4 h5 => by
                rw [x_up_off h5, x_up_off h4, h.gg]
              generalize (x_up (x_up I 3136 (4 + 4 * l) (nI c)) 3136 (5 + 4 * l) (nI d)) = I1 at s1 a1 ⊢
              obtain ⟨b1, b2, b3⟩ := hG (I1 3136) a1
              exact back I1 L ⟨_, I1 3136, by rw [hlen1]; omega, hall, b1, b2, b3, h.setG s1⟩
            cases hlk : g_lk (q_tau S.1 n B).2.1 (q_tau S.1 n B).2.2.1 (q_tau S.1 n B).2.2.2.1 u v with
            | some l =>
              have hl := (g_lk_lt hN hlk).1
              refine bL_nets_258 (fun _ => ?_) (fun q => absurd (Int32.not_lt.mp (nI_nneg (v := l) (by omega))) q)
              refine note l I L G (by omega) h (fun G' hG' => ?_)
              rw [q_tau_snoc]
              obtain ⟨b1, b2, b3⟩ := q_inv_some hv hqn' hln hlk hG'
              exact ⟨b1, b2.trans hn1, by rw [b3, hlen1]; omega⟩
            | none =>
              refine bL_nets_258 (fun q => absurd q (by decide)) (fun _ => ?_)
              obtain ⟨ln, hlnE⟩ : ∃ ln, (q_tau S.1 n B).2.1 = ln := ⟨_, rfl⟩
              have hI1 : I 3136 1 = nI ln := by rw [h.gg, ← hlnE]; exact hv.2.1.2.1
              have e2 : (2 : Int32) + (4 : Int32) * nI ln = nI (2 + 4 * ln) := i_4l 2 ln
              have e3 : (3 : Int32) + (4 : Int32) * nI ln = nI (3 + 4 * ln) := i_4l 3 ln
              have v2' : vp_in ((2 : Int32) + (4 : Int32) * nI ln) 64 := by rw [e2]; exact vp_in_nI (by omega) (by decide)
              have v3' : vp_in ((3 : Int32) + (4 : Int32) * nI ln) 64 := by rw [e3]; exact vp_in_nI (by omega) (by decide)
              have fin : ∀ a b I1, a = min u v → b = max u v → I1 = x_up (x_up (x_up I 3136 1 (nI (ln + 1))) 3136 (2 + 4 * ln) (nI a)) 3136 (3 + 4 * ln) (nI b) → XT (0, 0) Ln xs mL_nets 321 [(0, .ref 0), (1, .ref 49), (2, .ref 1000020), (3, .int 0), (4, .int (nI n)), (5, .int (nI m)), (6, .int (nI k)), (10, .int (nI c)), (11, .int (nI d)), (12, .int (nI ln))] [] I1 L Q := by
                rintro a b I1 rfl rfl rfl
                have s1 : Sm [3136] I (x_up (x_up (x_up I 3136 1 (nI (ln + 1))) 3136 (2 + 4 * ln) (nI (min u v))) 3136 (3 + 4 * ln) (nI (max u v))) := ((Sm.rf.up (by decide)).up (by decide)).up (by decide)
                have a1 : (x_up (x_up (x_up I 3136 1 (nI (ln + 1))) 3136 (2 + 4 * ln) (nI (min u v))) 3136 (3 + 4 * ln) (nI (max u v))) 3136 1 = nI (ln + 1) := by rw [x_up_off (by omega), x_up_off (by omega), x_up_at]
                have a2 : (x_up (x_up (x_up I 3136 1 (nI (ln + 1))) 3136 (2 + 4 * ln) (nI (min u v))) 3136 (3 + 4 * ln) (nI (max u v))) 3136 (2 + 4 * ln) = nI (min u v) := by rw [x_up_off (by omega), x_up_at]
                have a3 : (x_up (x_up (x_up I 3136 1 (nI (ln + 1))) 3136 (2 + 4 * ln) (nI (min u v))) 3136 (3 + 4 * ln) (nI (max u v))) 3136 (3 + 4 * ln) = nI (max u v) := x_up_at
                have a4 : ∀ j, j ≠ 1 → j < 2 + 4 * ln → (x_up (x_up (x_up I 3136 1 (nI (ln + 1))) 3136 (2 + 4 * ln) (nI (min u v))) 3136 (3 + 4 * ln) (nI (max u v))) 3136 j = G j := fun j hj1 hj2 => by
                  rw [x_up_off (by omega), x_up_off (by omega), x_up_off hj1, h.gg]
                generalize (x_up (x_up (x_up I 3136 1 (nI (ln + 1))) 3136 (2 + 4 * ln) (nI (min u v))) 3136 (3 + 4 * ln) (nI (max u v))) = I1 at s1 a1 a2 a3 a4 ⊢
                refine note ln I1 L (I1 3136) (by omega) (h.setG s1) (fun G' hG' => ?_)
                rw [q_tau_snoc]
                obtain ⟨b1, b2, b3⟩ := q_inv_none (G' := G') hv hqn' hln hlk (by rw [hlnE, hG' 1 (by omega) (by omega)]; exact a1) (by rw [hlnE, hG' _ (by omega) (by omega)]; exact a2) (by rw [hlnE, hG' _ (by omega) (by omega)]; exact a3) (fun j hj1 hj2 => by rw [hlnE] at hj2; rw [hG' j (by omega) (by omega)]; exact a4 j hj1 hj2)
                exact ⟨b1, b2.trans hn1, by rw [b3, hlen1]; omega⟩
              refine bL_nets_265 (fun q => bL_nets_296 ?_) (fun q => bL_nets_291 ?_)
              · have hle := (i_le v u rfl rfl (by omega) (by omega)).mp q
                rw [hI1, nI_1]
                refine bL_nets_298 v2' (fun _ => bL_nets_318 (bL_nets_320 v3' ?_)) (fun z => absurd q z)
                rw [e2, e3, nI_clamp (by omega), nI_clamp (by omega)]
                exact fin v u _ (by omega) (by omega) rfl
              · have hle : ¬ v ≤ u := fun z => q ((i_le v u rfl rfl (by omega) (by omega)).mpr z)
                rw [hI1, nI_1]
                refine bL_nets_298 v2' (fun z => absurd z q) (fun _ => bL_nets_313 (bL_nets_320 v3' ?_))
                rw [e2, e3, nI_clamp (by omega), nI_clamp (by omega)]
                exact fin u v _ (by omega) (by omega) rfl
          have goE1 : ∀ z, z = 9 ∨ z = 3 → XT (0, 0) Ln xs mL_nets 186 [(0, .ref 0), (1, .ref 49), (2, .ref 1000020), (3, .int 0), (4, .int (nI n)), (5, .int (nI m)), (6, .int (nI k)), (8, .int (nI u)), (9, .int (nI v)), (10, .int (nI c))] [.int (nI z), .int (x >>> ((13 : Int32) &&& 31)), .int 1] I L Q := by
            intro z hz
            refine bL_nets_186 (l_part z rfl (by omega) (by omega) (fun d hd => ?_))
            have := goE (d + 1) (by omega)
            rw [show d + 1 - 1 = d by omega] at this
            exact this
          exact l_part 2 rfl (by decide) (by decide) (fun r2 _ => bL_nets_177 (fun _ => bL_nets_185 (goE1 3 (Or.inr rfl))) (fun _ => bL_nets_180 (goE1 9 (Or.inl rfl))))
        have goD1 : ∀ z, z = 9 ∨ z = 3 → XT (0, 0) Ln xs mL_nets 156 [(0, .ref 0), (1, .ref 49), (2, .ref 1000020), (3, .int 0), (4, .int (nI n)), (5, .int (nI m)), (6, .int (nI k)), (7, .int x), (8, .int (nI u)), (9, .int (nI v))] [.int (nI z), .int (x >>> ((9 : Int32) &&& 31)), .int 1] I L Q := by
          intro z hz
          refine bL_nets_156 (l_part z rfl (by omega) (by omega) (fun c hc => ?_))
          have := goD (c + 1) (by omega)
          rw [show c + 1 - 1 = c by omega] at this
          exact this
        exact bL_nets_132 (l_part 2 rfl (by decide) (by decide) (fun r1 _ => bL_nets_147 (fun _ => bL_nets_155 (goD1 3 (Or.inr rfl))) (fun _ => bL_nets_150 (goD1 9 (Or.inl rfl)))))
      refine bL_nets_120 (fun _ => go v0 hv0) (fun _ => bL_nets_123 (fun z => ?_) ?_)
      · have := (i_eq n 0 rfl rfl (by omega) (by decide)).mp z; omega
      · rw [nI_1, pk_rem (by omega) (by omega) (by omega)]
        exact go _ (Nat.mod_lt _ (by omega))
  -- the beginning of the text
  have s1 : Sm [3136] I (x_up (x_up I 3136 0 (nI n)) 3136 1 0) := (Sm.rf.up (by decide)).up (by decide)
  have a0 : (x_up (x_up I 3136 0 (nI n)) 3136 1 0) 3136 0 = nI n := by rw [x_up_off (by decide), x_up_at]
  have a1 : (x_up (x_up I 3136 0 (nI n)) 3136 1 0) 3136 1 = nI 0 := by rw [x_up_at]; rfl
  generalize (x_up (x_up I 3136 0 (nI n)) 3136 1 0) = I1 at s1 a0 a1 ⊢
  have h1 : Cl I1 (uT (uG S (I1 3136)) (sT S)) := h.setG s1
  refine k_erase h1 (fun I2 L2 h2 => bL_nets_41 (l_says 110 111 100 101 rfl rfl rfl rfl (by decide) (by decide) h2 (fun I3 L3 h3 => bL_nets_54 (l_says 115 (48 + n) 32 32 rfl (nI_add 48 n) rfl rfl (by omega) (by decide) h3 (fun I4 L4 h4 => bL_nets_69 ?_)))))
  obtain ⟨b1, b2, b3⟩ := q_inv_0 S.1 hokS hn2 a0 a1
  exact loop m 0 I4 L4 [] (I1 3136) (Nat.zero_add m) (Nat.le_refl 0) (fun p hp => by cases hp) b1 b2 (by rw [b3]; exact Nat.zero_le _) h4
