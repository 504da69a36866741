/-! ===== arrives ===== -/
/-- nodes, links and the law's own numbers are as they were, and the text -/
def q_kp (S S' : q_S) : Prop := S'.1.1 = S.1.1 ∧ S'.1.2.1 = S.1.2.1 ∧ S'.1.2.2.1 = S.1.2.2.1 ∧ S'.1.2.2.2.1 = S.1.2.2.2.1 ∧ sG S' = sG S ∧ sT S' = sT S
theorem q_kp.rf {S : q_S} : q_kp S S := ⟨rfl, rfl, rfl, rfl, rfl, rfl⟩
theorem q_kp.tr {S S' S'' : q_S} (h : q_kp S S') (h' : q_kp S' S'') : q_kp S S'' := by
  obtain ⟨a1, a2, a3, a4, a5, a6⟩ := h
  obtain ⟨b1, b2, b3, b4, b5, b6⟩ := h'
  exact ⟨b1.trans a1, b2.trans a2, b3.trans a3, b4.trans a4, b5.trans a5, b6.trans a6⟩
abbrev gS (S : q_S) : Prop := gR (sG S) S.1.1 S.1.2.1 S.1.2.2.1 S.1.2.2.2.1
theorem gS_kp {S S' : q_S} (h : q_kp S S') (hG : gS S) : gS S' := by
  obtain ⟨a1, a2, a3, a4, a5, a6⟩ := h
  show gR _ _ _ _ _
  rw [a1, a2, a3, a4, a5]
  exact hG
theorem i_and1 (x : Int32) : ∃ k, k < 2 ∧ x &&& (1 : Int32) = nI k := by
  obtain ⟨z, rfl⟩ := nI_any x
  refine ⟨z &&& 1, ?_, i_and z 1⟩
  have : z &&& 1 ≤ 1 := Nat.and_le_right
  omega
theorem q_d_ek {σ : g_St} (ha : q_all σ) {u : Nat} (hu : u < σ.1) (w kd : Nat) : q_d σ u w kd = g_dst (q_ek σ.1 σ.2.1 σ.2.2.1 σ.2.2.2.1 σ.2.2.2.2.1 σ.2.2.2.2.2.1 σ.2.2.2.2.2.2.1 kd) u w := by
  unfold q_d q_e q_ek q_c
  rw [ha u hu]
theorem q_ek_ok {σ : g_St} (hok : g_okS σ) (kd : Nat) : g_ok (q_ek σ.1 σ.2.1 σ.2.2.1 σ.2.2.2.1 σ.2.2.2.2.1 σ.2.2.2.2.2.1 σ.2.2.2.2.2.2.1 kd) σ.1 := by
  obtain ⟨n, ln, lo, hi, c0, c1, U, seen⟩ := σ
  unfold q_ek
  split
  · exact g_e_ok hok.1 hok.2.1 U
  · exact g_e_ok hok.1 hok.2.2.1 U
theorem q_pu_ok {σ : g_St} {F : List (Nat × Nat)} {a b : Nat} (ha : a < 2) (hb : b < σ.1) (hF : F.length < 8) : q_pu σ F a b = (nI (F.length + 1), F ++ [(a, b)]) := by
  unfold q_pu
  rw [if_neg (show ¬ a = 2 by omega), if_pos (decide_eq_true hb), if_pos hF]
set_option maxHeartbeats 4000000 in
theorem l_arrives {S : q_S} {I : Nat → Nat → Int32} {L : Nat → Int64} {Q : Option Value → (Nat → Nat → Int32) → (Nat → Int64) → Prop} {x : Int32} (hG : gS S) (hs : (sL S).1 + 1 < 1000000) (h : Cl I S) (K : ∀ (I' : Nat → Nat → Int32) (L' : Nat → Int64) (S' : q_S), q_kp S S' → (sL S').1 = (sL S).1 + 1 → Cl I' S' → Q (some (.int 1)) I' L') : XS mL_arrives 0 [(0, .ref 0), (1, .ref 49), (2, .int x)] [] I L Q := by
  have G0 : ∀ (S' : q_S) (I : Nat → Nat → Int32), q_kp S S' → Cl I S' → I 3136 0 = nI S'.1.1 := fun S' I hk h => by
    rw [h.gg]; exact (gS_kp hk hG).1
  -- when all have learnt
  have rest : ∀ I L (S' : q_S), q_kp S S' → (sL S').1 = (sL S).1 → q_all S'.1 → Cl I S' → XS mL_arrives 25 [(0, .ref 0), (1, .ref 49), (2, .int x)] [] I L Q := by
    intro I L S' hkp hsl hal h
    have hokS := h.1
    obtain ⟨hn2, hn8, hln, hN⟩ := g_okS_E h.1
    have hbh := q_bh_all hal
    have hcan := q_can_all hal
    refine bL_arrives_25 (k_count 3 rfl (by decide) h (fun I L h => bL_arrives_30 (fun q => ?_) (fun _ => bL_arrives_33 ?_)))
    · refine absurd ?_ q
      show nI (g_pc 32 (q_bh S'.1)) = 0
      rw [hbh, g_pc_0]
      rfl
    refine k_ord h (fun I L r h hr => ?_)
    have e := q_OA_can hcan hr
    rw [hbh, g_pc_0] at e
    subst e
    refine bL_arrives_38 (fun q => absurd rfl q) (fun _ => bL_arrives_41 (k_ord h (fun I L r h hr => ?_)))
    have e : r = -1 := by
      rcases hr with ⟨a, -⟩ | ⟨-, a, -⟩ | ⟨-, a, -⟩ | ⟨k, hk, a, -, b⟩
      · exact absurd a (by decide)
      · exact absurd hcan a
      · exact absurd a (by decide)
      · rcases b with ⟨-, b⟩ | ⟨b, -⟩
        · exact b
        · rw [hbh, g_pc_0] at b; omega
    subst e
    refine bL_arrives_46 (fun _ => bL_arrives_52 (k_clear h (fun I L h => bL_arrives_56 ?_))) (fun q => absurd rfl q)
    have hkc : q_kp S (uF S' []) := hkp
    refine l_part S'.1.1 (G0 (uF S' []) _ hkc h) (by omega) (by omega) (fun u hu => bL_arrives_64 ?_)
    -- three segments, one by one
    have loop : ∀ d k I L (F : List (Nat × Nat)) (tg : Bool) (fr : Int32), k + d = 3 → F.length = k → (∀ p, p ∈ F → p.1 < 2 ∧ p.2 < S'.1.1) → (tg = true → q_tog S'.1.1 S'.1.2.1 S'.1.2.2.1 S'.1.2.2.2.1 S'.1.2.2.2.2.1 S'.1.2.2.2.2.2.1 S'.1.2.2.2.2.2.2.1 u F ∧ fr = nI (q_sum S'.1.1 S'.1.2.1 S'.1.2.2.1 S'.1.2.2.2.1 S'.1.2.2.2.2.1 S'.1.2.2.2.2.2.1 S'.1.2.2.2.2.2.2.1 u F) ∧ q_sum S'.1.1 S'.1.2.1 S'.1.2.2.1 S'.1.2.2.2.1 S'.1.2.2.2.2.1 S'.1.2.2.2.2.2.1 S'.1.2.2.2.2.2.2.1 u F ≤ 63 * k) → (tg = false → ¬ q_tog S'.1.1 S'.1.2.1 S'.1.2.2.1 S'.1.2.2.2.1 S'.1.2.2.2.2.1 S'.1.2.2.2.2.2.1 S'.1.2.2.2.2.2.2.1 u F) → q_end u F < S'.1.1 → Cl I (uF S' F) →
        XS mL_arrives 77 [(0, .ref 0), (1, .ref 49), (2, .int x), (3, .int (nI u)), (4, .int (nI (q_end u F))), (5, .int (i_b tg)), (6, .int fr), (7, .int (nI k))] [] I L Q := by
      intro d
      induction d with
      | zero =>
        intro k I L F tg fr hk hF hp ht1 ht0 hen h
        have hk3 : k = 3 := by omega
        subst hk3
        refine bL_arrives_77 (fun _ => bL_arrives_167 ?_) (fun q => absurd (by decide) q)
        refine k_send (S := uF S' F) u rfl hu (by show (sL S').1 + 1 < 1000000; omega) h (fun I L R th md lt x' hLL hLX h => bL_arrives_172 ?_)
        generalize hz : ((sL (uF S' F)).1 + 1, th, md, lt, x', R.2.1, R.2.2.2) = z at h
        have zs : z.1 = (sL S').1 + 1 := by rw [← hz]
        have zP : z.2.2.2.2.2.1 = R.2.1 := by rw [← hz]
        have hkz : q_kp S (uL (uF S' F) z) := hkp
        -- no rings, all safe
        have fin : ∀ I L, Cl I (uL (uF S' F) z) → XS mL_arrives 212 [(0, .ref 0), (4, .int (nI (q_end u F))), (5, .int (i_b tg)), (6, .int fr), (7, .int R.1)] [] I L Q := by
          intro I L h
          have yes : ∀ I L, Cl I (uL (uF S' F) z) → Q (some (.int 1)) I L := fun I L h => K I L _ hkz (by show z.1 = _; rw [zs, hsl]) h
          have e241 : ∀ I L, Cl I (uL (uF S' F) z) → XS mL_arrives 241 [] [] I L Q := fun I L h => bL_arrives_241 (bL_arrives_261 (Or.inr rfl) (yes I L h))
          obtain ⟨c1, c2, c3⟩ : g_net S'.1.1 S'.1.2.1 S'.1.2.2.1 S'.1.2.2.2.1 ∧ g_cs S'.1.2.1 S'.1.2.2.2.2.1 ∧ g_cs S'.1.2.1 S'.1.2.2.2.2.2.1 := by
            obtain ⟨⟨n, ln, lo, hi, c0, c1, U, seen⟩, S2⟩ := S'
            exact ⟨hokS.1, hokS.2.1, hokS.2.2.1⟩
          have hwl := hLX.2.2.2.2.1
          cases tg with
          | true =>
            obtain ⟨t1, t2, t3⟩ := ht1 rfl
            refine bL_arrives_212 (fun q => absurd q (by decide)) (fun _ => bL_arrives_217 (fun q => bL_arrives_234 (fun q2 => ?_) (fun _ => e241 I L h)) (fun q => bL_arrives_224 ?_))
            · rcases q_arr1 c1 c2 c3 hal F 22 u [u] _ hp hu (by show 1 ≤ 21; omega) t1 hLL with ⟨a, -⟩ | a
              · exact absurd a q
              · exact absurd a q2
            · refine k_wayHops (by show 0 < z.1; omega) h (fun I L h => bL_arrives_229 (fun _ => e241 I L h) (fun q2 => ?_))
              rcases q_arr1 c1 c2 c3 hal F 22 u [u] _ hp hu (by show 1 ≤ 21; omega) t1 hLL with ⟨-, a⟩ | a
              · refine absurd ?_ q2
                rw [t2]
                show nI (z.2.2.2.2.2.1.length - 1) ≤ _
                rw [zP]
                have a : R.2.1.length ≤ 1 + q_sum S'.1.1 S'.1.2.1 S'.1.2.2.1 S'.1.2.2.2.1 S'.1.2.2.2.2.1 S'.1.2.2.2.2.2.1 S'.1.2.2.2.2.2.2.1 u F := a
                exact (i_le _ _ rfl rfl (by omega) (by omega)).mpr (by omega)
              · rw [a] at q
                exact absurd q (i_neg (by decide) (by omega))
          | false =>
            have := q_arr0 c1 c2 c3 hal F 22 u [u] _ hp hu (by show 1 + 7 * F.length ≤ 22; omega) (ht0 rfl) hLL
            exact bL_arrives_212 (fun _ => bL_arrives_249 (fun q => absurd this q) (fun _ => bL_arrives_256 (bL_arrives_261 (Or.inr rfl) (yes I L h)))) (fun q => absurd rfl q)
        have rl : ∀ d w I L, w + d = S'.1.1 → Cl I (uL (uF S' F) z) → XS mL_arrives 177 [(0, .ref 0), (1, .ref 49), (4, .int (nI (q_end u F))), (5, .int (i_b tg)), (6, .int fr), (7, .int R.1), (8, .int (nI w))] [] I L Q := by
          intro d
          induction d with
          | zero =>
            intro w I L hw h
            refine bL_arrives_177 (fun _ => fin I L h) (fun q => ?_)
            rw [G0 (uL (uF S' F) z) _ hkz h] at q
            exact absurd ((nI_leI (a := S'.1.1) (b := w) (by omega) (by omega)).mpr (by omega)) q
          | succ d ih =>
            intro w I L hw h
            refine bL_arrives_177 (fun q => ?_) (fun _ => bL_arrives_185 (k_rings (S := uL (uF S' F) z) w rfl (by show w < S'.1.1; omega) h (fun I L h => bL_arrives_191 (fun q => ?_) (fun _ => bL_arrives_194 (k_safe (S := uL (uF S' F) z) w rfl (by show w < S'.1.1; omega) h (fun I L h => bL_arrives_200 (fun _ => bL_arrives_206 ?_) (fun q => ?_)))))))
            · rw [G0 (uL (uF S' F) z) _ hkz h, nI_leI (by show S'.1.1 < 2 ^ 31; omega) (by omega)] at q
              have q : S'.1.1 ≤ w := q
              omega
            · refine absurd ?_ q
              show nI (q_rm S'.1 0 w) = 0
              rw [q_rm_all hokS hal]
              rfl
            · rw [nI_1]
              exact ih (w + 1) I L (by omega) h
            · refine absurd ?_ q
              show i_b (q_sf S'.1 (2 ^ w)) = 1
              rw [q_sf_all hokS hal]
              rfl
        exact rl S'.1.1 0 I L (Nat.zero_add _) h
      | succ d ih =>
        intro k I L F tg fr hk hF hp ht1 ht0 hen h
        refine bL_arrives_77 (fun q => ?_) (fun _ => bL_arrives_83 ?_)
        · have := (i_le 3 k rfl rfl (by decide) (by omega)).mp q; omega
        have hkF : q_kp S (uF S' F) := hkp
        refine l_part S'.1.1 (G0 (uF S' F) _ hkF h) (by omega) (by omega) (fun w hw => bL_arrives_97 ?_)
        obtain ⟨kd, hkd, ekd⟩ := i_and1 (x >>> (((12 : Int32) + nI k) &&& 31))
        rw [ekd]
        have hcs := g_dst_cases (q_ek_ok hokS kd) (w := w) hen
        have hqd := q_d_ek hal hen w kd
        obtain ⟨D, hD⟩ : ∃ D, g_dst (q_ek S'.1.1 S'.1.2.1 S'.1.2.2.1 S'.1.2.2.2.1 S'.1.2.2.2.2.1 S'.1.2.2.2.2.2.1 S'.1.2.2.2.2.2.2.1 kd) (q_end u F) w = D := ⟨_, rfl⟩
        rw [hD] at hcs hqd
        have hlen1 : (F ++ [(kd, w)]).length = k + 1 := by simp [hF]
        have hp1 : ∀ p, p ∈ F ++ [(kd, w)] → p.1 < 2 ∧ p.2 < S'.1.1 := fun p hp' => by
          rw [List.mem_append, List.mem_singleton] at hp'
          rcases hp' with hp' | rfl
          · exact hp p hp'
          · exact ⟨hkd, hw⟩
        have hend1 : q_end u (F ++ [(kd, w)]) = w := q_end_snoc (kd, w) F u
        -- behind the two asks
        have go : ∀ (tg' : Bool) (fr' : Int32) I L, (tg' = true → q_tog S'.1.1 S'.1.2.1 S'.1.2.2.1 S'.1.2.2.2.1 S'.1.2.2.2.2.1 S'.1.2.2.2.2.2.1 S'.1.2.2.2.2.2.2.1 u (F ++ [(kd, w)]) ∧ fr + fr' = nI (q_sum S'.1.1 S'.1.2.1 S'.1.2.2.1 S'.1.2.2.2.1 S'.1.2.2.2.2.1 S'.1.2.2.2.2.2.1 S'.1.2.2.2.2.2.2.1 u (F ++ [(kd, w)])) ∧ q_sum S'.1.1 S'.1.2.1 S'.1.2.2.1 S'.1.2.2.2.1 S'.1.2.2.2.2.1 S'.1.2.2.2.2.2.1 S'.1.2.2.2.2.2.2.1 u (F ++ [(kd, w)]) ≤ 63 * (k + 1)) → (tg' = false → ¬ q_tog S'.1.1 S'.1.2.1 S'.1.2.2.1 S'.1.2.2.2.1 S'.1.2.2.2.2.1 S'.1.2.2.2.2.2.1 S'.1.2.2.2.2.2.2.1 u (F ++ [(kd, w)])) → Cl I (uF S' F) → XS mL_arrives 145 [(0, .ref 0), (1, .ref 49), (2, .int x), (3, .int (nI u)), (5, .int (i_b tg')), (7, .int (nI k)), (8, .int (nI w)), (9, .int (nI kd))] [.int fr', .int fr] I L Q := by
          intro tg' fr' I L h1 h0 h
          refine bL_arrives_145 (k_push (S := uF S' F) kd w rfl rfl (by omega) (by omega) h (fun I L h => bL_arrives_156 ?_))
          have h : Cl I (uF S' (F ++ [(kd, w)])) := by
            have e := q_pu_ok (σ := S'.1) (F := F) (a := kd) (b := w) hkd hw (by omega)
            have h2 : Cl I (uF S' (q_pu S'.1 F kd w).2) := h
            rw [e] at h2
            exact h2
          rw [nI_1]
          have := ih (k + 1) I L (F ++ [(kd, w)]) tg' (fr + fr') (by omega) hlen1 hp1 h1 h0 (by rw [hend1]; exact hw) h
          rw [hend1] at this
          exact this
        have hts := q_tog_snoc (n := S'.1.1) (ln := S'.1.2.1) (lo := S'.1.2.2.1) (hi := S'.1.2.2.2.1) (c0 := S'.1.2.2.2.2.1) (c1 := S'.1.2.2.2.2.2.1) (U := S'.1.2.2.2.2.2.2.1) (kd, w) F u
        have hss := q_sum_snoc (n := S'.1.1) (ln := S'.1.2.1) (lo := S'.1.2.2.1) (hi := S'.1.2.2.2.1) (c0 := S'.1.2.2.2.2.1) (c1 := S'.1.2.2.2.2.2.1) (U := S'.1.2.2.2.2.2.2.1) (kd, w) F u
        refine k_far (S := uF S' F) (q_end u F) w kd rfl rfl rfl hen hw hkd h (fun I L h => ?_)
        have eqd : q_d (uF S' F).1 (q_end u F) w kd = D := hqd
        rw [eqd]
        rcases hcs with ⟨c1, c2⟩ | ⟨c1, c2⟩
        · rw [if_pos (by omega)]
          refine bL_arrives_122 (fun q => absurd q (nI_nneg (by omega))) (fun _ => bL_arrives_125 (bL_arrives_130 ?_))
          refine k_far (S := uF S' F) (q_end u F) w kd rfl rfl rfl hen hw hkd h (fun I L h => ?_)
          rw [eqd, if_pos (by omega)]
          have ea : i_b tg &&& (1 : Int32) = i_b tg := by cases tg <;> rfl
          rw [ea]
          refine go tg (nI D) I L (fun z => ?_) (fun z => ?_) h
          · obtain ⟨t1, t2, t3⟩ := ht1 z
            refine ⟨hts.mpr ⟨t1, c1⟩, ?_, ?_⟩
            · rw [t2, nI_add, hss]
              show nI (_ + D) = nI (_ + g_dst _ (q_end u F) w)
              rw [hD]
            · rw [hss]
              show _ + g_dst _ (q_end u F) w ≤ _
              rw [hD]
              omega
          · exact fun q => ht0 z (hts.mp q).1
        · rw [if_neg (by omega)]
          refine bL_arrives_122 (fun _ => bL_arrives_129 (bL_arrives_130 ?_)) (fun q => absurd (by decide) q)
          refine k_far (S := uF S' F) (q_end u F) w kd rfl rfl rfl hen hw hkd h (fun I L h => ?_)
          rw [eqd, if_neg (by omega)]
          have ea : i_b tg &&& (0 : Int32) = i_b false := by cases tg <;> rfl
          rw [ea]
          exact go false (-1) I L (fun z => by cases z) (fun _ q => c1 (hts.mp q).2) h
    exact loop 3 0 I L [] true (0 : Int32) rfl rfl (fun p hp => by cases hp) (fun _ => ⟨trivial, rfl, Nat.le_refl 0⟩) (fun z => by cases z) hu h
  -- the learning
  have ll : ∀ d u I L (S' : q_S), u + d = S'.1.1 → q_kp S S' → (sL S').1 = (sL S).1 → (∀ j, j < u → S'.1.2.2.2.2.2.2.2 j = S'.1.2.2.2.2.2.2.1) → Cl I S' → XS mL_arrives 2 [(0, .ref 0), (1, .ref 49), (2, .int x), (3, .int (nI u))] [] I L Q := by
    intro d
    induction d with
    | zero =>
      intro u I L S' hu hkp hsl hse h
      have hn8 := (g_okS_E h.1).2.1
      refine bL_arrives_2 (fun _ => rest I L S' hkp hsl (fun j hj => hse j (by omega)) h) (fun q => ?_)
      rw [G0 S' _ hkp h] at q
      exact absurd ((nI_leI (by omega) (by omega)).mpr (by omega)) q
    | succ d ih =>
      intro u I L S' hu hkp hsl hse h
      have hn8 := (g_okS_E h.1).2.1
      refine bL_arrives_2 (fun q => ?_) (fun _ => bL_arrives_9 (k_learn u rfl (by omega) h (fun I L v hv h => bL_arrives_14 (fun _ => bL_arrives_19 ?_) (fun q => absurd (Int32.not_lt.mp (nI_nneg (by omega))) q))))
      · rw [G0 S' _ hkp h, nI_leI (by omega) (by omega)] at q; omega
      rw [nI_1]
      refine ih (u + 1) I L (q_do S' (q_le S'.1 u)) ?_ (hkp.tr ⟨rfl, rfl, rfl, rfl, rfl, rfl⟩) hsl (fun j hj => ?_) h
      · show u + 1 + d = S'.1.1; omega
      · show g_set S'.1.2.2.2.2.2.2.2 u S'.1.2.2.2.2.2.2.1 j = S'.1.2.2.2.2.2.2.1
        by_cases e : j = u
        · rw [e, g_set_at]
        · rw [g_set_off e]; exact hse j (by omega)
  exact bL_arrives_0 (ll S.1.1 0 I L S (Nat.zero_add _) q_kp.rf rfl (fun j hj => absurd hj (Nat.not_lt_zero j)) h)
