/-! ===== the law: its cases, its loop, its start ===== -/
abbrev mLw : x_Mth := (RL, yL_law, cL_law, 4, some .boolean, 11, 448, 600000, 7302250)
abbrev XL (Lc : Nat) (xs : Nat → Int32) (pc : Nat) (ls : List (Nat × Value)) (st : List Value) (I : Nat → Nat → Int32) (L : Nat → Int64) : Prop := X (some (Lc, xs)) mLw (73, 2409) pc ls st (x_SH, I, L, x_RF) (fun r _ => r = some (.int 1))
abbrev lsL (i : Nat) : List (Nat × Value) := [(0, .ref 1000020), (1, .ref 0), (2, .ref 49), (3, .int (nI i))]
theorem xl_callV {Lc : Nat} {xs : Nat → Int32} {pc : Nat} {ls : List (Nat × Value)} {I : Nat → Nat → Int32} {L : Nat → Int64} {idx : Nat} (m' : x_Mth) (As rest : List Value) (b ci n : Nat) (st : List Value) (hst : st = As.reverse ++ .ref b :: rest) (hd : decode (x_code mLw) pc = .ok (.invokevirtual idx, 3)) (hl : Cond.methodLink (x_own mLw) idx (x_y m') ∈ x_GW) (hm : x_MV m' n) (hn : As.length = n)
    (hR : x_fr m' + 1 ≤ x_fr mLw ∧ 8 + (x_maxL m' + 11) + x_lo m' ≤ x_lo mLw) (h0 : x_mc m' = 0 ∧ x_ms m' = 0) (hw : x_cat rest ≤ 8) (ho : x_SH[b]? = some (0, ci)) (hci : ci < 11) (hcl : (x_y m').cls = x_R ci) (hlen : (lg_sl (.ref b :: As)).length ≤ x_maxL m')
    (K : XS m' 0 (lv_args 0 (.ref b :: As)) [] I L (fun r I' L' => XL Lc xs (pc + 3) ls (r.toList ++ rest) I' L')) : XL Lc xs pc ls st I L := by
  refine x_callV m' As rest b ci n st hst hd hl hm hn hR ⟨by rw [h0.1]; exact Nat.le_of_ble_eq_true rfl, by rw [h0.2]; exact Nat.le_of_ble_eq_true rfl⟩ hw ho hci hcl hlen (Or.inl h0.1) ?_
  refine x_mono K ?_
  rintro r ⟨a, I', L', R'⟩ ⟨h1, h2, h⟩
  dsimp only at h1 h2
  subst h1; subst h2
  rw [h0.1, h0.2]
  exact h
theorem xl_arg {Lc : Nat} {xs : Nat → Int32} {pc : Nat} {st : List Value} {I : Nat → Nat → Int32} {L : Nat → Int64} {i : Nat} {n : Int} (j : Nat) (hj : j < 5) (hi : i + 5 ≤ Lc) (hL : Lc ≤ 2560) (h1 : decode (x_code mLw) pc = .ok (.aload_n 0, 1)) (h2 : decode (x_code mLw) (pc + 1) = .ok (.iload_n 3, 1)) (h3 : decode (x_code mLw) (pc + 1 + 1) = .ok (.iconst n, 1)) (h4 : decode (x_code mLw) (pc + 1 + 1 + 1) = .ok (.iadd, 1)) (h5 : decode (x_code mLw) (pc + 1 + 1 + 1 + 1) = .ok (.iaload, 1)) (hn : Int32.ofInt n = nI j)
    (K : XL Lc xs (pc + 5) (lsL i) (.int (xs (i + j)) :: st) I L) : XL Lc xs pc (lsL i) st I L := by
  refine x_aload_n 0 h1 rfl rfl ?_
  refine x_iload_n 3 h2 rfl rfl ?_
  refine x_iconst (v := nI j) h3 hn ?_
  refine x_iadd h4 ?_
  rw [nI_add]
  refine x_sld h5 (vp_in_nI (by omega) (by omega)) ?_
  rw [nI_clamp (by omega)]
  exact K
theorem law_0 {Lc : Nat} {xs : Nat → Int32} {i k : Nat} {I : Nat → Nat → Int32} {L : Nat → Int64} (hi : i + 5 ≤ Lc) (hL : Lc ≤ 2560) (hop : Op k mX9_write mX10_write [(1, .int (xs (i + 1)))] I L) (Kend : ∀ I2 L2, Rel (k + 1) I2 → XL Lc xs 901 (lsL i) [] I2 L2) : XL Lc xs 164 (lsL i) [] I L := by
  refine x_aload_n 1 dL_law_164 rfl rfl ?_
  refine xl_arg 1 (by decide) hi hL dL_law_165 dL_law_166 dL_law_167 dL_law_168 dL_law_169 (by decide) ?_
  refine xl_callV mX9_write [.int (xs (i + 1))] [] 0 9 1 _ rfl dL_law_170 ml_L_13 qX9_write rfl ⟨Nat.le_of_ble_eq_true rfl, Nat.le_of_ble_eq_true rfl⟩ ⟨rfl, rfl⟩ (Nat.le_of_ble_eq_true rfl) sh_0 (by decide) rfl (Nat.le_of_ble_eq_true rfl) (xs_mono hop ?_)
  rintro r I1 L1 ⟨v, rfl, X2⟩
  refine x_aload_n 2 dL_law_173 rfl rfl ?_
  refine xl_arg 1 (by decide) hi hL dL_law_174 dL_law_175 dL_law_176 dL_law_177 dL_law_178 (by decide) ?_
  refine xl_callV mX10_write [.int (xs (i + 1))] [.int v] 49 10 1 _ rfl dL_law_179 ml_L_17 qX10_write rfl ⟨Nat.le_of_ble_eq_true rfl, Nat.le_of_ble_eq_true rfl⟩ ⟨rfl, rfl⟩ (Nat.le_of_ble_eq_true rfl) sh_49 (by decide) rfl (Nat.le_of_ble_eq_true rfl) (xs_mono X2 ?_)
  rintro r2 I2 L2 ⟨rfl, hR⟩
  exact x_icmp_eq 901 dL_law_182 (by decide) (fun _ => Kend I2 L2 hR) (fun h => absurd rfl h)
theorem law_1 {Lc : Nat} {xs : Nat → Int32} {i k : Nat} {I : Nat → Nat → Int32} {L : Nat → Int64} (hi : i + 5 ≤ Lc) (hL : Lc ≤ 2560) (hop : Op k mX9_erase mX10_erase [] I L) (Kend : ∀ I2 L2, Rel (k + 1) I2 → XL Lc xs 901 (lsL i) [] I2 L2) : XL Lc xs 187 (lsL i) [] I L := by
  refine x_aload_n 1 dL_law_187 rfl rfl ?_
  refine xl_callV mX9_erase [] [] 0 9 0 _ rfl dL_law_188 ml_L_18 qX9_erase rfl ⟨Nat.le_of_ble_eq_true rfl, Nat.le_of_ble_eq_true rfl⟩ ⟨rfl, rfl⟩ (Nat.le_of_ble_eq_true rfl) sh_0 (by decide) rfl (Nat.le_of_ble_eq_true rfl) (xs_mono hop ?_)
  rintro r I1 L1 ⟨v, rfl, X2⟩
  refine x_aload_n 2 dL_law_191 rfl rfl ?_
  refine xl_callV mX10_erase [] [.int v] 49 10 0 _ rfl dL_law_192 ml_L_22 qX10_erase rfl ⟨Nat.le_of_ble_eq_true rfl, Nat.le_of_ble_eq_true rfl⟩ ⟨rfl, rfl⟩ (Nat.le_of_ble_eq_true rfl) sh_49 (by decide) rfl (Nat.le_of_ble_eq_true rfl) (xs_mono X2 ?_)
  rintro r2 I2 L2 ⟨rfl, hR⟩
  exact x_icmp_eq 901 dL_law_195 (by decide) (fun _ => Kend I2 L2 hR) (fun h => absurd rfl h)
theorem law_2 {Lc : Nat} {xs : Nat → Int32} {i k : Nat} {I : Nat → Nat → Int32} {L : Nat → Int64} (hi : i + 5 ≤ Lc) (hL : Lc ≤ 2560) (hop : Op k mX9_fault mX10_fault [] I L) (Kend : ∀ I2 L2, Rel (k + 1) I2 → XL Lc xs 901 (lsL i) [] I2 L2) : XL Lc xs 200 (lsL i) [] I L := by
  refine x_aload_n 1 dL_law_200 rfl rfl ?_
  refine xl_callV mX9_fault [] [] 0 9 0 _ rfl dL_law_201 ml_L_23 qX9_fault rfl ⟨Nat.le_of_ble_eq_true rfl, Nat.le_of_ble_eq_true rfl⟩ ⟨rfl, rfl⟩ (Nat.le_of_ble_eq_true rfl) sh_0 (by decide) rfl (Nat.le_of_ble_eq_true rfl) (xs_mono hop ?_)
  rintro r I1 L1 ⟨v, rfl, X2⟩
  refine x_aload_n 2 dL_law_204 rfl rfl ?_
  refine xl_callV mX10_fault [] [.int v] 49 10 0 _ rfl dL_law_205 ml_L_26 qX10_fault rfl ⟨Nat.le_of_ble_eq_true rfl, Nat.le_of_ble_eq_true rfl⟩ ⟨rfl, rfl⟩ (Nat.le_of_ble_eq_true rfl) sh_49 (by decide) rfl (Nat.le_of_ble_eq_true rfl) (xs_mono X2 ?_)
  rintro r2 I2 L2 ⟨rfl, hR⟩
  exact x_icmp_eq 901 dL_law_208 (by decide) (fun _ => Kend I2 L2 hR) (fun h => absurd rfl h)
theorem law_3 {Lc : Nat} {xs : Nat → Int32} {i k : Nat} {I : Nat → Nat → Int32} {L : Nat → Int64} (hi : i + 5 ≤ Lc) (hL : Lc ≤ 2560) (hop : Op k mX9_tell mX10_tell [] I L) (Kend : ∀ I2 L2, Rel (k + 1) I2 → XL Lc xs 901 (lsL i) [] I2 L2) : XL Lc xs 213 (lsL i) [] I L := by
  refine x_aload_n 1 dL_law_213 rfl rfl ?_
  refine xl_callV mX9_tell [] [] 0 9 0 _ rfl dL_law_214 ml_L_27 qX9_tell rfl ⟨Nat.le_of_ble_eq_true rfl, Nat.le_of_ble_eq_true rfl⟩ ⟨rfl, rfl⟩ (Nat.le_of_ble_eq_true rfl) sh_0 (by decide) rfl (Nat.le_of_ble_eq_true rfl) (xs_mono hop ?_)
  rintro r I1 L1 ⟨v, rfl, X2⟩
  refine x_aload_n 2 dL_law_217 rfl rfl ?_
  refine xl_callV mX10_tell [] [.int v] 49 10 0 _ rfl dL_law_218 ml_L_30 qX10_tell rfl ⟨Nat.le_of_ble_eq_true rfl, Nat.le_of_ble_eq_true rfl⟩ ⟨rfl, rfl⟩ (Nat.le_of_ble_eq_true rfl) sh_49 (by decide) rfl (Nat.le_of_ble_eq_true rfl) (xs_mono X2 ?_)
  rintro r2 I2 L2 ⟨rfl, hR⟩
  exact x_icmp_eq 901 dL_law_221 (by decide) (fun _ => Kend I2 L2 hR) (fun h => absurd rfl h)
theorem law_4 {Lc : Nat} {xs : Nat → Int32} {i k : Nat} {I : Nat → Nat → Int32} {L : Nat → Int64} (hi : i + 5 ≤ Lc) (hL : Lc ≤ 2560) (hop : Op k mX9_link mX10_link [(1, .int (xs (i + 1))), (2, .int (xs (i + 2)))] I L) (Kend : ∀ I2 L2, Rel (k + 1) I2 → XL Lc xs 901 (lsL i) [] I2 L2) : XL Lc xs 226 (lsL i) [] I L := by
  refine x_aload_n 1 dL_law_226 rfl rfl ?_
  refine xl_arg 1 (by decide) hi hL dL_law_227 dL_law_228 dL_law_229 dL_law_230 dL_law_231 (by decide) ?_
  refine xl_arg 2 (by decide) hi hL dL_law_232 dL_law_233 dL_law_234 dL_law_235 dL_law_236 (by decide) ?_
  refine xl_callV mX9_link [.int (xs (i + 1)), .int (xs (i + 2))] [] 0 9 2 _ rfl dL_law_237 ml_L_31 qX9_link rfl ⟨Nat.le_of_ble_eq_true rfl, Nat.le_of_ble_eq_true rfl⟩ ⟨rfl, rfl⟩ (Nat.le_of_ble_eq_true rfl) sh_0 (by decide) rfl (Nat.le_of_ble_eq_true rfl) (xs_mono hop ?_)
  rintro r I1 L1 ⟨v, rfl, X2⟩
  refine x_aload_n 2 dL_law_240 rfl rfl ?_
  refine xl_arg 1 (by decide) hi hL dL_law_241 dL_law_242 dL_law_243 dL_law_244 dL_law_245 (by decide) ?_
  refine xl_arg 2 (by decide) hi hL dL_law_246 dL_law_247 dL_law_248 dL_law_249 dL_law_250 (by decide) ?_
  refine xl_callV mX10_link [.int (xs (i + 1)), .int (xs (i + 2))] [.int v] 49 10 2 _ rfl dL_law_251 ml_L_35 qX10_link rfl ⟨Nat.le_of_ble_eq_true rfl, Nat.le_of_ble_eq_true rfl⟩ ⟨rfl, rfl⟩ (Nat.le_of_ble_eq_true rfl) sh_49 (by decide) rfl (Nat.le_of_ble_eq_true rfl) (xs_mono X2 ?_)
  rintro r2 I2 L2 ⟨rfl, hR⟩
  exact x_icmp_eq 901 dL_law_254 (by decide) (fun _ => Kend I2 L2 hR) (fun h => absurd rfl h)
theorem law_5 {Lc : Nat} {xs : Nat → Int32} {i k : Nat} {I : Nat → Nat → Int32} {L : Nat → Int64} (hi : i + 5 ≤ Lc) (hL : Lc ≤ 2560) (hop : Op k mX9_fail mX10_fail [(1, .int (xs (i + 1)))] I L) (Kend : ∀ I2 L2, Rel (k + 1) I2 → XL Lc xs 901 (lsL i) [] I2 L2) : XL Lc xs 259 (lsL i) [] I L := by
  refine x_aload_n 1 dL_law_259 rfl rfl ?_
  refine xl_arg 1 (by decide) hi hL dL_law_260 dL_law_261 dL_law_262 dL_law_263 dL_law_264 (by decide) ?_
  refine xl_callV mX9_fail [.int (xs (i + 1))] [] 0 9 1 _ rfl dL_law_265 ml_L_36 qX9_fail rfl ⟨Nat.le_of_ble_eq_true rfl, Nat.le_of_ble_eq_true rfl⟩ ⟨rfl, rfl⟩ (Nat.le_of_ble_eq_true rfl) sh_0 (by decide) rfl (Nat.le_of_ble_eq_true rfl) (xs_mono hop ?_)
  rintro r I1 L1 ⟨v, rfl, X2⟩
  refine x_aload_n 2 dL_law_268 rfl rfl ?_
  refine xl_arg 1 (by decide) hi hL dL_law_269 dL_law_270 dL_law_271 dL_law_272 dL_law_273 (by decide) ?_
  refine xl_callV mX10_fail [.int (xs (i + 1))] [.int v] 49 10 1 _ rfl dL_law_274 ml_L_39 qX10_fail rfl ⟨Nat.le_of_ble_eq_true rfl, Nat.le_of_ble_eq_true rfl⟩ ⟨rfl, rfl⟩ (Nat.le_of_ble_eq_true rfl) sh_49 (by decide) rfl (Nat.le_of_ble_eq_true rfl) (xs_mono X2 ?_)
  rintro r2 I2 L2 ⟨rfl, hR⟩
  exact x_icmp_eq 901 dL_law_277 (by decide) (fun _ => Kend I2 L2 hR) (fun h => absurd rfl h)
theorem law_6 {Lc : Nat} {xs : Nat → Int32} {i k : Nat} {I : Nat → Nat → Int32} {L : Nat → Int64} (hi : i + 5 ≤ Lc) (hL : Lc ≤ 2560) (hop : Op k mX9_heal mX10_heal [(1, .int (xs (i + 1)))] I L) (Kend : ∀ I2 L2, Rel (k + 1) I2 → XL Lc xs 901 (lsL i) [] I2 L2) : XL Lc xs 282 (lsL i) [] I L := by
  refine x_aload_n 1 dL_law_282 rfl rfl ?_
  refine xl_arg 1 (by decide) hi hL dL_law_283 dL_law_284 dL_law_285 dL_law_286 dL_law_287 (by decide) ?_
  refine xl_callV mX9_heal [.int (xs (i + 1))] [] 0 9 1 _ rfl dL_law_288 ml_L_40 qX9_heal rfl ⟨Nat.le_of_ble_eq_true rfl, Nat.le_of_ble_eq_true rfl⟩ ⟨rfl, rfl⟩ (Nat.le_of_ble_eq_true rfl) sh_0 (by decide) rfl (Nat.le_of_ble_eq_true rfl) (xs_mono hop ?_)
  rintro r I1 L1 ⟨v, rfl, X2⟩
  refine x_aload_n 2 dL_law_291 rfl rfl ?_
  refine xl_arg 1 (by decide) hi hL dL_law_292 dL_law_293 dL_law_294 dL_law_295 dL_law_296 (by decide) ?_
  refine xl_callV mX10_heal [.int (xs (i + 1))] [.int v] 49 10 1 _ rfl dL_law_297 ml_L_43 qX10_heal rfl ⟨Nat.le_of_ble_eq_true rfl, Nat.le_of_ble_eq_true rfl⟩ ⟨rfl, rfl⟩ (Nat.le_of_ble_eq_true rfl) sh_49 (by decide) rfl (Nat.le_of_ble_eq_true rfl) (xs_mono X2 ?_)
  rintro r2 I2 L2 ⟨rfl, hR⟩
  exact x_icmp_eq 901 dL_law_300 (by decide) (fun _ => Kend I2 L2 hR) (fun h => absurd rfl h)
theorem law_7 {Lc : Nat} {xs : Nat → Int32} {i k : Nat} {I : Nat → Nat → Int32} {L : Nat → Int64} (hi : i + 5 ≤ Lc) (hL : Lc ≤ 2560) (hop : Op k mX9_tune mX10_tune [(1, .int (xs (i + 1))), (2, .int (xs (i + 2))), (3, .int (xs (i + 3)))] I L) (Kend : ∀ I2 L2, Rel (k + 1) I2 → XL Lc xs 901 (lsL i) [] I2 L2) : XL Lc xs 305 (lsL i) [] I L := by
  refine x_aload_n 1 dL_law_305 rfl rfl ?_
  refine xl_arg 1 (by decide) hi hL dL_law_306 dL_law_307 dL_law_308 dL_law_309 dL_law_310 (by decide) ?_
  refine xl_arg 2 (by decide) hi hL dL_law_311 dL_law_312 dL_law_313 dL_law_314 dL_law_315 (by decide) ?_
  refine xl_arg 3 (by decide) hi hL dL_law_316 dL_law_317 dL_law_318 dL_law_319 dL_law_320 (by decide) ?_
  refine xl_callV mX9_tune [.int (xs (i + 1)), .int (xs (i + 2)), .int (xs (i + 3))] [] 0 9 3 _ rfl dL_law_321 ml_L_44 qX9_tune rfl ⟨Nat.le_of_ble_eq_true rfl, Nat.le_of_ble_eq_true rfl⟩ ⟨rfl, rfl⟩ (Nat.le_of_ble_eq_true rfl) sh_0 (by decide) rfl (Nat.le_of_ble_eq_true rfl) (xs_mono hop ?_)
  rintro r I1 L1 ⟨v, rfl, X2⟩
  refine x_aload_n 2 dL_law_324 rfl rfl ?_
  refine xl_arg 1 (by decide) hi hL dL_law_325 dL_law_326 dL_law_327 dL_law_328 dL_law_329 (by decide) ?_
  refine xl_arg 2 (by decide) hi hL dL_law_330 dL_law_331 dL_law_332 dL_law_333 dL_law_334 (by decide) ?_
  refine xl_arg 3 (by decide) hi hL dL_law_335 dL_law_336 dL_law_337 dL_law_338 dL_law_339 (by decide) ?_
  refine xl_callV mX10_tune [.int (xs (i + 1)), .int (xs (i + 2)), .int (xs (i + 3))] [.int v] 49 10 3 _ rfl dL_law_340 ml_L_48 qX10_tune rfl ⟨Nat.le_of_ble_eq_true rfl, Nat.le_of_ble_eq_true rfl⟩ ⟨rfl, rfl⟩ (Nat.le_of_ble_eq_true rfl) sh_49 (by decide) rfl (Nat.le_of_ble_eq_true rfl) (xs_mono X2 ?_)
  rintro r2 I2 L2 ⟨rfl, hR⟩
  exact x_icmp_eq 901 dL_law_343 (by decide) (fun _ => Kend I2 L2 hR) (fun h => absurd rfl h)
theorem law_8 {Lc : Nat} {xs : Nat → Int32} {i k : Nat} {I : Nat → Nat → Int32} {L : Nat → Int64} (hi : i + 5 ≤ Lc) (hL : Lc ≤ 2560) (hop : Op k mX9_learn mX10_learn [(1, .int (xs (i + 1)))] I L) (Kend : ∀ I2 L2, Rel (k + 1) I2 → XL Lc xs 901 (lsL i) [] I2 L2) : XL Lc xs 348 (lsL i) [] I L := by
  refine x_aload_n 1 dL_law_348 rfl rfl ?_
  refine xl_arg 1 (by decide) hi hL dL_law_349 dL_law_350 dL_law_351 dL_law_352 dL_law_353 (by decide) ?_
  refine xl_callV mX9_learn [.int (xs (i + 1))] [] 0 9 1 _ rfl dL_law_354 ml_L_49 qX9_learn rfl ⟨Nat.le_of_ble_eq_true rfl, Nat.le_of_ble_eq_true rfl⟩ ⟨rfl, rfl⟩ (Nat.le_of_ble_eq_true rfl) sh_0 (by decide) rfl (Nat.le_of_ble_eq_true rfl) (xs_mono hop ?_)
  rintro r I1 L1 ⟨v, rfl, X2⟩
  refine x_aload_n 2 dL_law_357 rfl rfl ?_
  refine xl_arg 1 (by decide) hi hL dL_law_358 dL_law_359 dL_law_360 dL_law_361 dL_law_362 (by decide) ?_
  refine xl_callV mX10_learn [.int (xs (i + 1))] [.int v] 49 10 1 _ rfl dL_law_363 ml_L_52 qX10_learn rfl ⟨Nat.le_of_ble_eq_true rfl, Nat.le_of_ble_eq_true rfl⟩ ⟨rfl, rfl⟩ (Nat.le_of_ble_eq_true rfl) sh_49 (by decide) rfl (Nat.le_of_ble_eq_true rfl) (xs_mono X2 ?_)
  rintro r2 I2 L2 ⟨rfl, hR⟩
  exact x_icmp_eq 901 dL_law_366 (by decide) (fun _ => Kend I2 L2 hR) (fun h => absurd rfl h)
theorem law_9 {Lc : Nat} {xs : Nat → Int32} {i k : Nat} {I : Nat → Nat → Int32} {L : Nat → Int64} (hi : i + 5 ≤ Lc) (hL : Lc ≤ 2560) (hop : Op k mX9_undo mX10_undo [] I L) (Kend : ∀ I2 L2, Rel (k + 1) I2 → XL Lc xs 901 (lsL i) [] I2 L2) : XL Lc xs 371 (lsL i) [] I L := by
  refine x_aload_n 1 dL_law_371 rfl rfl ?_
  refine xl_callV mX9_undo [] [] 0 9 0 _ rfl dL_law_372 ml_L_53 qX9_undo rfl ⟨Nat.le_of_ble_eq_true rfl, Nat.le_of_ble_eq_true rfl⟩ ⟨rfl, rfl⟩ (Nat.le_of_ble_eq_true rfl) sh_0 (by decide) rfl (Nat.le_of_ble_eq_true rfl) (xs_mono hop ?_)
  rintro r I1 L1 ⟨v, rfl, X2⟩
  refine x_aload_n 2 dL_law_375 rfl rfl ?_
  refine xl_callV mX10_undo [] [.int v] 49 10 0 _ rfl dL_law_376 ml_L_56 qX10_undo rfl ⟨Nat.le_of_ble_eq_true rfl, Nat.le_of_ble_eq_true rfl⟩ ⟨rfl, rfl⟩ (Nat.le_of_ble_eq_true rfl) sh_49 (by decide) rfl (Nat.le_of_ble_eq_true rfl) (xs_mono X2 ?_)
  rintro r2 I2 L2 ⟨rfl, hR⟩
  exact x_icmp_eq 901 dL_law_379 (by decide) (fun _ => Kend I2 L2 hR) (fun h => absurd rfl h)
theorem law_10 {Lc : Nat} {xs : Nat → Int32} {i k : Nat} {I : Nat → Nat → Int32} {L : Nat → Int64} (hi : i + 5 ≤ Lc) (hL : Lc ≤ 2560) (hop : Op k mX9_seen mX10_seen [(1, .int (xs (i + 1)))] I L) (Kend : ∀ I2 L2, Rel (k + 1) I2 → XL Lc xs 901 (lsL i) [] I2 L2) : XL Lc xs 384 (lsL i) [] I L := by
  refine x_aload_n 1 dL_law_384 rfl rfl ?_
  refine xl_arg 1 (by decide) hi hL dL_law_385 dL_law_386 dL_law_387 dL_law_388 dL_law_389 (by decide) ?_
  refine xl_callV mX9_seen [.int (xs (i + 1))] [] 0 9 1 _ rfl dL_law_390 ml_L_57 qX9_seen rfl ⟨Nat.le_of_ble_eq_true rfl, Nat.le_of_ble_eq_true rfl⟩ ⟨rfl, rfl⟩ (Nat.le_of_ble_eq_true rfl) sh_0 (by decide) rfl (Nat.le_of_ble_eq_true rfl) (xs_mono hop ?_)
  rintro r I1 L1 ⟨v, rfl, X2⟩
  refine x_aload_n 2 dL_law_393 rfl rfl ?_
  refine xl_arg 1 (by decide) hi hL dL_law_394 dL_law_395 dL_law_396 dL_law_397 dL_law_398 (by decide) ?_
  refine xl_callV mX10_seen [.int (xs (i + 1))] [.int v] 49 10 1 _ rfl dL_law_399 ml_L_60 qX10_seen rfl ⟨Nat.le_of_ble_eq_true rfl, Nat.le_of_ble_eq_true rfl⟩ ⟨rfl, rfl⟩ (Nat.le_of_ble_eq_true rfl) sh_49 (by decide) rfl (Nat.le_of_ble_eq_true rfl) (xs_mono X2 ?_)
  rintro r2 I2 L2 ⟨rfl, hR⟩
  exact x_icmp_eq 901 dL_law_402 (by decide) (fun _ => Kend I2 L2 hR) (fun h => absurd rfl h)
theorem law_11 {Lc : Nat} {xs : Nat → Int32} {i k : Nat} {I : Nat → Nat → Int32} {L : Nat → Int64} (hi : i + 5 ≤ Lc) (hL : Lc ≤ 2560) (hop : Op k mX9_next mX10_next [(1, .int (xs (i + 1))), (2, .int (xs (i + 2))), (3, .int (xs (i + 3)))] I L) (Kend : ∀ I2 L2, Rel (k + 1) I2 → XL Lc xs 901 (lsL i) [] I2 L2) : XL Lc xs 407 (lsL i) [] I L := by
  refine x_aload_n 1 dL_law_407 rfl rfl ?_
  refine xl_arg 1 (by decide) hi hL dL_law_408 dL_law_409 dL_law_410 dL_law_411 dL_law_412 (by decide) ?_
  refine xl_arg 2 (by decide) hi hL dL_law_413 dL_law_414 dL_law_415 dL_law_416 dL_law_417 (by decide) ?_
  refine xl_arg 3 (by decide) hi hL dL_law_418 dL_law_419 dL_law_420 dL_law_421 dL_law_422 (by decide) ?_
  refine xl_callV mX9_next [.int (xs (i + 1)), .int (xs (i + 2)), .int (xs (i + 3))] [] 0 9 3 _ rfl dL_law_423 ml_L_61 qX9_next rfl ⟨Nat.le_of_ble_eq_true rfl, Nat.le_of_ble_eq_true rfl⟩ ⟨rfl, rfl⟩ (Nat.le_of_ble_eq_true rfl) sh_0 (by decide) rfl (Nat.le_of_ble_eq_true rfl) (xs_mono hop ?_)
  rintro r I1 L1 ⟨v, rfl, X2⟩
  refine x_aload_n 2 dL_law_426 rfl rfl ?_
  refine xl_arg 1 (by decide) hi hL dL_law_427 dL_law_428 dL_law_429 dL_law_430 dL_law_431 (by decide) ?_
  refine xl_arg 2 (by decide) hi hL dL_law_432 dL_law_433 dL_law_434 dL_law_435 dL_law_436 (by decide) ?_
  refine xl_arg 3 (by decide) hi hL dL_law_437 dL_law_438 dL_law_439 dL_law_440 dL_law_441 (by decide) ?_
  refine xl_callV mX10_next [.int (xs (i + 1)), .int (xs (i + 2)), .int (xs (i + 3))] [.int v] 49 10 3 _ rfl dL_law_442 ml_L_64 qX10_next rfl ⟨Nat.le_of_ble_eq_true rfl, Nat.le_of_ble_eq_true rfl⟩ ⟨rfl, rfl⟩ (Nat.le_of_ble_eq_true rfl) sh_49 (by decide) rfl (Nat.le_of_ble_eq_true rfl) (xs_mono X2 ?_)
  rintro r2 I2 L2 ⟨rfl, hR⟩
  exact x_icmp_eq 901 dL_law_445 (by decide) (fun _ => Kend I2 L2 hR) (fun h => absurd rfl h)
theorem law_12 {Lc : Nat} {xs : Nat → Int32} {i k : Nat} {I : Nat → Nat → Int32} {L : Nat → Int64} (hi : i + 5 ≤ Lc) (hL : Lc ≤ 2560) (hop : Op k mX9_far mX10_far [(1, .int (xs (i + 1))), (2, .int (xs (i + 2))), (3, .int (xs (i + 3)))] I L) (Kend : ∀ I2 L2, Rel (k + 1) I2 → XL Lc xs 901 (lsL i) [] I2 L2) : XL Lc xs 450 (lsL i) [] I L := by
  refine x_aload_n 1 dL_law_450 rfl rfl ?_
  refine xl_arg 1 (by decide) hi hL dL_law_451 dL_law_452 dL_law_453 dL_law_454 dL_law_455 (by decide) ?_
  refine xl_arg 2 (by decide) hi hL dL_law_456 dL_law_457 dL_law_458 dL_law_459 dL_law_460 (by decide) ?_
  refine xl_arg 3 (by decide) hi hL dL_law_461 dL_law_462 dL_law_463 dL_law_464 dL_law_465 (by decide) ?_
  refine xl_callV mX9_far [.int (xs (i + 1)), .int (xs (i + 2)), .int (xs (i + 3))] [] 0 9 3 _ rfl dL_law_466 ml_L_65 qX9_far rfl ⟨Nat.le_of_ble_eq_true rfl, Nat.le_of_ble_eq_true rfl⟩ ⟨rfl, rfl⟩ (Nat.le_of_ble_eq_true rfl) sh_0 (by decide) rfl (Nat.le_of_ble_eq_true rfl) (xs_mono hop ?_)
  rintro r I1 L1 ⟨v, rfl, X2⟩
  refine x_aload_n 2 dL_law_469 rfl rfl ?_
  refine xl_arg 1 (by decide) hi hL dL_law_470 dL_law_471 dL_law_472 dL_law_473 dL_law_474 (by decide) ?_
  refine xl_arg 2 (by decide) hi hL dL_law_475 dL_law_476 dL_law_477 dL_law_478 dL_law_479 (by decide) ?_
  refine xl_arg 3 (by decide) hi hL dL_law_480 dL_law_481 dL_law_482 dL_law_483 dL_law_484 (by decide) ?_
  refine xl_callV mX10_far [.int (xs (i + 1)), .int (xs (i + 2)), .int (xs (i + 3))] [.int v] 49 10 3 _ rfl dL_law_485 ml_L_68 qX10_far rfl ⟨Nat.le_of_ble_eq_true rfl, Nat.le_of_ble_eq_true rfl⟩ ⟨rfl, rfl⟩ (Nat.le_of_ble_eq_true rfl) sh_49 (by decide) rfl (Nat.le_of_ble_eq_true rfl) (xs_mono X2 ?_)
  rintro r2 I2 L2 ⟨rfl, hR⟩
  exact x_icmp_eq 901 dL_law_488 (by decide) (fun _ => Kend I2 L2 hR) (fun h => absurd rfl h)
theorem law_13 {Lc : Nat} {xs : Nat → Int32} {i k : Nat} {I : Nat → Nat → Int32} {L : Nat → Int64} (hi : i + 5 ≤ Lc) (hL : Lc ≤ 2560) (hop : Op k mX9_space mX10_space [(1, .int (xs (i + 1))), (2, .int (xs (i + 2))), (3, .int (xs (i + 3)))] I L) (Kend : ∀ I2 L2, Rel (k + 1) I2 → XL Lc xs 901 (lsL i) [] I2 L2) : XL Lc xs 493 (lsL i) [] I L := by
  refine x_aload_n 1 dL_law_493 rfl rfl ?_
  refine xl_arg 1 (by decide) hi hL dL_law_494 dL_law_495 dL_law_496 dL_law_497 dL_law_498 (by decide) ?_
  refine xl_arg 2 (by decide) hi hL dL_law_499 dL_law_500 dL_law_501 dL_law_502 dL_law_503 (by decide) ?_
  refine xl_arg 3 (by decide) hi hL dL_law_504 dL_law_505 dL_law_506 dL_law_507 dL_law_508 (by decide) ?_
  refine xl_callV mX9_space [.int (xs (i + 1)), .int (xs (i + 2)), .int (xs (i + 3))] [] 0 9 3 _ rfl dL_law_509 ml_L_69 qX9_space rfl ⟨Nat.le_of_ble_eq_true rfl, Nat.le_of_ble_eq_true rfl⟩ ⟨rfl, rfl⟩ (Nat.le_of_ble_eq_true rfl) sh_0 (by decide) rfl (Nat.le_of_ble_eq_true rfl) (xs_mono hop ?_)
  rintro r I1 L1 ⟨v, rfl, X2⟩
  refine x_aload_n 2 dL_law_512 rfl rfl ?_
  refine xl_arg 1 (by decide) hi hL dL_law_513 dL_law_514 dL_law_515 dL_law_516 dL_law_517 (by decide) ?_
  refine xl_arg 2 (by decide) hi hL dL_law_518 dL_law_519 dL_law_520 dL_law_521 dL_law_522 (by decide) ?_
  refine xl_arg 3 (by decide) hi hL dL_law_523 dL_law_524 dL_law_525 dL_law_526 dL_law_527 (by decide) ?_
  refine xl_callV mX10_space [.int (xs (i + 1)), .int (xs (i + 2)), .int (xs (i + 3))] [.int v] 49 10 3 _ rfl dL_law_528 ml_L_72 qX10_space rfl ⟨Nat.le_of_ble_eq_true rfl, Nat.le_of_ble_eq_true rfl⟩ ⟨rfl, rfl⟩ (Nat.le_of_ble_eq_true rfl) sh_49 (by decide) rfl (Nat.le_of_ble_eq_true rfl) (xs_mono X2 ?_)
  rintro r2 I2 L2 ⟨rfl, hR⟩
  exact x_icmp_eq 901 dL_law_531 (by decide) (fun _ => Kend I2 L2 hR) (fun h => absurd rfl h)
theorem law_14 {Lc : Nat} {xs : Nat → Int32} {i k : Nat} {I : Nat → Nat → Int32} {L : Nat → Int64} (hi : i + 5 ≤ Lc) (hL : Lc ≤ 2560) (hop : Op k mX9_rings mX10_rings [(1, .int (xs (i + 1)))] I L) (Kend : ∀ I2 L2, Rel (k + 1) I2 → XL Lc xs 901 (lsL i) [] I2 L2) : XL Lc xs 536 (lsL i) [] I L := by
  refine x_aload_n 1 dL_law_536 rfl rfl ?_
  refine xl_arg 1 (by decide) hi hL dL_law_537 dL_law_538 dL_law_539 dL_law_540 dL_law_541 (by decide) ?_
  refine xl_callV mX9_rings [.int (xs (i + 1))] [] 0 9 1 _ rfl dL_law_542 ml_L_73 qX9_rings rfl ⟨Nat.le_of_ble_eq_true rfl, Nat.le_of_ble_eq_true rfl⟩ ⟨rfl, rfl⟩ (Nat.le_of_ble_eq_true rfl) sh_0 (by decide) rfl (Nat.le_of_ble_eq_true rfl) (xs_mono hop ?_)
  rintro r I1 L1 ⟨v, rfl, X2⟩
  refine x_aload_n 2 dL_law_545 rfl rfl ?_
  refine xl_arg 1 (by decide) hi hL dL_law_546 dL_law_547 dL_law_548 dL_law_549 dL_law_550 (by decide) ?_
  refine xl_callV mX10_rings [.int (xs (i + 1))] [.int v] 49 10 1 _ rfl dL_law_551 ml_L_76 qX10_rings rfl ⟨Nat.le_of_ble_eq_true rfl, Nat.le_of_ble_eq_true rfl⟩ ⟨rfl, rfl⟩ (Nat.le_of_ble_eq_true rfl) sh_49 (by decide) rfl (Nat.le_of_ble_eq_true rfl) (xs_mono X2 ?_)
  rintro r2 I2 L2 ⟨rfl, hR⟩
  exact x_icmp_eq 901 dL_law_554 (by decide) (fun _ => Kend I2 L2 hR) (fun h => absurd rfl h)
theorem law_15 {Lc : Nat} {xs : Nat → Int32} {i k : Nat} {I : Nat → Nat → Int32} {L : Nat → Int64} (hi : i + 5 ≤ Lc) (hL : Lc ≤ 2560) (hop : Op k mX9_safe mX10_safe [(1, .int (xs (i + 1)))] I L) (Kend : ∀ I2 L2, Rel (k + 1) I2 → XL Lc xs 901 (lsL i) [] I2 L2) : XL Lc xs 559 (lsL i) [] I L := by
  refine x_aload_n 1 dL_law_559 rfl rfl ?_
  refine xl_arg 1 (by decide) hi hL dL_law_560 dL_law_561 dL_law_562 dL_law_563 dL_law_564 (by decide) ?_
  refine xl_callV mX9_safe [.int (xs (i + 1))] [] 0 9 1 _ rfl dL_law_565 ml_L_77 qX9_safe rfl ⟨Nat.le_of_ble_eq_true rfl, Nat.le_of_ble_eq_true rfl⟩ ⟨rfl, rfl⟩ (Nat.le_of_ble_eq_true rfl) sh_0 (by decide) rfl (Nat.le_of_ble_eq_true rfl) (xs_mono hop ?_)
  rintro r I1 L1 ⟨v, rfl, X2⟩
  refine x_aload_n 2 dL_law_568 rfl rfl ?_
  refine xl_arg 1 (by decide) hi hL dL_law_569 dL_law_570 dL_law_571 dL_law_572 dL_law_573 (by decide) ?_
  refine xl_callV mX10_safe [.int (xs (i + 1))] [.int v] 49 10 1 _ rfl dL_law_574 ml_L_80 qX10_safe rfl ⟨Nat.le_of_ble_eq_true rfl, Nat.le_of_ble_eq_true rfl⟩ ⟨rfl, rfl⟩ (Nat.le_of_ble_eq_true rfl) sh_49 (by decide) rfl (Nat.le_of_ble_eq_true rfl) (xs_mono X2 ?_)
  rintro r2 I2 L2 ⟨rfl, hR⟩
  exact x_icmp_eq 901 dL_law_577 (by decide) (fun _ => Kend I2 L2 hR) (fun h => absurd rfl h)
theorem law_16 {Lc : Nat} {xs : Nat → Int32} {i k : Nat} {I : Nat → Nat → Int32} {L : Nat → Int64} (hi : i + 5 ≤ Lc) (hL : Lc ≤ 2560) (hop : Op k mX9_order mX10_order [(1, .int (xs (i + 1)))] I L) (Kend : ∀ I2 L2, Rel (k + 1) I2 → XL Lc xs 901 (lsL i) [] I2 L2) : XL Lc xs 582 (lsL i) [] I L := by
  refine x_aload_n 1 dL_law_582 rfl rfl ?_
  refine xl_arg 1 (by decide) hi hL dL_law_583 dL_law_584 dL_law_585 dL_law_586 dL_law_587 (by decide) ?_
  refine xl_callV mX9_order [.int (xs (i + 1))] [] 0 9 1 _ rfl dL_law_588 ml_L_81 qX9_order rfl ⟨Nat.le_of_ble_eq_true rfl, Nat.le_of_ble_eq_true rfl⟩ ⟨rfl, rfl⟩ (Nat.le_of_ble_eq_true rfl) sh_0 (by decide) rfl (Nat.le_of_ble_eq_true rfl) (xs_mono hop ?_)
  rintro r I1 L1 ⟨v, rfl, X2⟩
  refine x_aload_n 2 dL_law_591 rfl rfl ?_
  refine xl_arg 1 (by decide) hi hL dL_law_592 dL_law_593 dL_law_594 dL_law_595 dL_law_596 (by decide) ?_
  refine xl_callV mX10_order [.int (xs (i + 1))] [.int v] 49 10 1 _ rfl dL_law_597 ml_L_84 qX10_order rfl ⟨Nat.le_of_ble_eq_true rfl, Nat.le_of_ble_eq_true rfl⟩ ⟨rfl, rfl⟩ (Nat.le_of_ble_eq_true rfl) sh_49 (by decide) rfl (Nat.le_of_ble_eq_true rfl) (xs_mono X2 ?_)
  rintro r2 I2 L2 ⟨rfl, hR⟩
  exact x_icmp_eq 901 dL_law_600 (by decide) (fun _ => Kend I2 L2 hR) (fun h => absurd rfl h)
theorem law_17 {Lc : Nat} {xs : Nat → Int32} {i k : Nat} {I : Nat → Nat → Int32} {L : Nat → Int64} (hi : i + 5 ≤ Lc) (hL : Lc ≤ 2560) (hop : Op k mX9_push mX10_push [(1, .int (xs (i + 1))), (2, .int (xs (i + 2)))] I L) (Kend : ∀ I2 L2, Rel (k + 1) I2 → XL Lc xs 901 (lsL i) [] I2 L2) : XL Lc xs 605 (lsL i) [] I L := by
  refine x_aload_n 1 dL_law_605 rfl rfl ?_
  refine xl_arg 1 (by decide) hi hL dL_law_606 dL_law_607 dL_law_608 dL_law_609 dL_law_610 (by decide) ?_
  refine xl_arg 2 (by decide) hi hL dL_law_611 dL_law_612 dL_law_613 dL_law_614 dL_law_615 (by decide) ?_
  refine xl_callV mX9_push [.int (xs (i + 1)), .int (xs (i + 2))] [] 0 9 2 _ rfl dL_law_616 ml_L_85 qX9_push rfl ⟨Nat.le_of_ble_eq_true rfl, Nat.le_of_ble_eq_true rfl⟩ ⟨rfl, rfl⟩ (Nat.le_of_ble_eq_true rfl) sh_0 (by decide) rfl (Nat.le_of_ble_eq_true rfl) (xs_mono hop ?_)
  rintro r I1 L1 ⟨v, rfl, X2⟩
  refine x_aload_n 2 dL_law_619 rfl rfl ?_
  refine xl_arg 1 (by decide) hi hL dL_law_620 dL_law_621 dL_law_622 dL_law_623 dL_law_624 (by decide) ?_
  refine xl_arg 2 (by decide) hi hL dL_law_625 dL_law_626 dL_law_627 dL_law_628 dL_law_629 (by decide) ?_
  refine xl_callV mX10_push [.int (xs (i + 1)), .int (xs (i + 2))] [.int v] 49 10 2 _ rfl dL_law_630 ml_L_88 qX10_push rfl ⟨Nat.le_of_ble_eq_true rfl, Nat.le_of_ble_eq_true rfl⟩ ⟨rfl, rfl⟩ (Nat.le_of_ble_eq_true rfl) sh_49 (by decide) rfl (Nat.le_of_ble_eq_true rfl) (xs_mono X2 ?_)
  rintro r2 I2 L2 ⟨rfl, hR⟩
  exact x_icmp_eq 901 dL_law_633 (by decide) (fun _ => Kend I2 L2 hR) (fun h => absurd rfl h)
theorem law_18 {Lc : Nat} {xs : Nat → Int32} {i k : Nat} {I : Nat → Nat → Int32} {L : Nat → Int64} (hi : i + 5 ≤ Lc) (hL : Lc ≤ 2560) (hop : Op k mX9_clear mX10_clear [] I L) (Kend : ∀ I2 L2, Rel (k + 1) I2 → XL Lc xs 901 (lsL i) [] I2 L2) : XL Lc xs 638 (lsL i) [] I L := by
  refine x_aload_n 1 dL_law_638 rfl rfl ?_
  refine xl_callV mX9_clear [] [] 0 9 0 _ rfl dL_law_639 ml_L_89 qX9_clear rfl ⟨Nat.le_of_ble_eq_true rfl, Nat.le_of_ble_eq_true rfl⟩ ⟨rfl, rfl⟩ (Nat.le_of_ble_eq_true rfl) sh_0 (by decide) rfl (Nat.le_of_ble_eq_true rfl) (xs_mono hop ?_)
  rintro r I1 L1 ⟨v, rfl, X2⟩
  refine x_aload_n 2 dL_law_642 rfl rfl ?_
  refine xl_callV mX10_clear [] [.int v] 49 10 0 _ rfl dL_law_643 ml_L_92 qX10_clear rfl ⟨Nat.le_of_ble_eq_true rfl, Nat.le_of_ble_eq_true rfl⟩ ⟨rfl, rfl⟩ (Nat.le_of_ble_eq_true rfl) sh_49 (by decide) rfl (Nat.le_of_ble_eq_true rfl) (xs_mono X2 ?_)
  rintro r2 I2 L2 ⟨rfl, hR⟩
  exact x_icmp_eq 901 dL_law_646 (by decide) (fun _ => Kend I2 L2 hR) (fun h => absurd rfl h)
theorem law_19 {Lc : Nat} {xs : Nat → Int32} {i k : Nat} {I : Nat → Nat → Int32} {L : Nat → Int64} (hi : i + 5 ≤ Lc) (hL : Lc ≤ 2560) (hop : Op k mX9_segment mX10_segment [(1, .int (xs (i + 1))), (2, .int (xs (i + 2)))] I L) (Kend : ∀ I2 L2, Rel (k + 1) I2 → XL Lc xs 901 (lsL i) [] I2 L2) : XL Lc xs 651 (lsL i) [] I L := by
  refine x_aload_n 1 dL_law_651 rfl rfl ?_
  refine xl_arg 1 (by decide) hi hL dL_law_652 dL_law_653 dL_law_654 dL_law_655 dL_law_656 (by decide) ?_
  refine xl_arg 2 (by decide) hi hL dL_law_657 dL_law_658 dL_law_659 dL_law_660 dL_law_661 (by decide) ?_
  refine xl_callV mX9_segment [.int (xs (i + 1)), .int (xs (i + 2))] [] 0 9 2 _ rfl dL_law_662 ml_L_93 qX9_segment rfl ⟨Nat.le_of_ble_eq_true rfl, Nat.le_of_ble_eq_true rfl⟩ ⟨rfl, rfl⟩ (Nat.le_of_ble_eq_true rfl) sh_0 (by decide) rfl (Nat.le_of_ble_eq_true rfl) (xs_mono hop ?_)
  rintro r I1 L1 ⟨v, rfl, X2⟩
  refine x_aload_n 2 dL_law_665 rfl rfl ?_
  refine xl_arg 1 (by decide) hi hL dL_law_666 dL_law_667 dL_law_668 dL_law_669 dL_law_670 (by decide) ?_
  refine xl_arg 2 (by decide) hi hL dL_law_671 dL_law_672 dL_law_673 dL_law_674 dL_law_675 (by decide) ?_
  refine xl_callV mX10_segment [.int (xs (i + 1)), .int (xs (i + 2))] [.int v] 49 10 2 _ rfl dL_law_676 ml_L_96 qX10_segment rfl ⟨Nat.le_of_ble_eq_true rfl, Nat.le_of_ble_eq_true rfl⟩ ⟨rfl, rfl⟩ (Nat.le_of_ble_eq_true rfl) sh_49 (by decide) rfl (Nat.le_of_ble_eq_true rfl) (xs_mono X2 ?_)
  rintro r2 I2 L2 ⟨rfl, hR⟩
  exact x_icmp_eq 901 dL_law_679 (by decide) (fun _ => Kend I2 L2 hR) (fun h => absurd rfl h)
theorem law_20 {Lc : Nat} {xs : Nat → Int32} {i k : Nat} {I : Nat → Nat → Int32} {L : Nat → Int64} (hi : i + 5 ≤ Lc) (hL : Lc ≤ 2560) (hop : Op k mX9_repair mX10_repair [(1, .int (xs (i + 1))), (2, .int (xs (i + 2))), (3, .int (xs (i + 3))), (4, .int (xs (i + 4)))] I L) (Kend : ∀ I2 L2, Rel (k + 1) I2 → XL Lc xs 901 (lsL i) [] I2 L2) : XL Lc xs 684 (lsL i) [] I L := by
  refine x_aload_n 1 dL_law_684 rfl rfl ?_
  refine xl_arg 1 (by decide) hi hL dL_law_685 dL_law_686 dL_law_687 dL_law_688 dL_law_689 (by decide) ?_
  refine xl_arg 2 (by decide) hi hL dL_law_690 dL_law_691 dL_law_692 dL_law_693 dL_law_694 (by decide) ?_
  refine xl_arg 3 (by decide) hi hL dL_law_695 dL_law_696 dL_law_697 dL_law_698 dL_law_699 (by decide) ?_
  refine xl_arg 4 (by decide) hi hL dL_law_700 dL_law_701 dL_law_702 dL_law_703 dL_law_704 (by decide) ?_
  refine xl_callV mX9_repair [.int (xs (i + 1)), .int (xs (i + 2)), .int (xs (i + 3)), .int (xs (i + 4))] [] 0 9 4 _ rfl dL_law_705 ml_L_97 qX9_repair rfl ⟨Nat.le_of_ble_eq_true rfl, Nat.le_of_ble_eq_true rfl⟩ ⟨rfl, rfl⟩ (Nat.le_of_ble_eq_true rfl) sh_0 (by decide) rfl (Nat.le_of_ble_eq_true rfl) (xs_mono hop ?_)
  rintro r I1 L1 ⟨v, rfl, X2⟩
  refine x_aload_n 2 dL_law_708 rfl rfl ?_
  refine xl_arg 1 (by decide) hi hL dL_law_709 dL_law_710 dL_law_711 dL_law_712 dL_law_713 (by decide) ?_
  refine xl_arg 2 (by decide) hi hL dL_law_714 dL_law_715 dL_law_716 dL_law_717 dL_law_718 (by decide) ?_
  refine xl_arg 3 (by decide) hi hL dL_law_719 dL_law_720 dL_law_721 dL_law_722 dL_law_723 (by decide) ?_
  refine xl_arg 4 (by decide) hi hL dL_law_724 dL_law_725 dL_law_726 dL_law_727 dL_law_728 (by decide) ?_
  refine xl_callV mX10_repair [.int (xs (i + 1)), .int (xs (i + 2)), .int (xs (i + 3)), .int (xs (i + 4))] [.int v] 49 10 4 _ rfl dL_law_729 ml_L_101 qX10_repair rfl ⟨Nat.le_of_ble_eq_true rfl, Nat.le_of_ble_eq_true rfl⟩ ⟨rfl, rfl⟩ (Nat.le_of_ble_eq_true rfl) sh_49 (by decide) rfl (Nat.le_of_ble_eq_true rfl) (xs_mono X2 ?_)
  rintro r2 I2 L2 ⟨rfl, hR⟩
  exact x_icmp_eq 901 dL_law_732 (by decide) (fun _ => Kend I2 L2 hR) (fun h => absurd rfl h)
theorem law_21 {Lc : Nat} {xs : Nat → Int32} {i k : Nat} {I : Nat → Nat → Int32} {L : Nat → Int64} (hi : i + 5 ≤ Lc) (hL : Lc ≤ 2560) (hop : Op k mX9_trace mX10_trace [(1, .int (xs (i + 1)))] I L) (Kend : ∀ I2 L2, Rel (k + 1) I2 → XL Lc xs 901 (lsL i) [] I2 L2) : XL Lc xs 737 (lsL i) [] I L := by
  refine x_aload_n 1 dL_law_737 rfl rfl ?_
  refine xl_arg 1 (by decide) hi hL dL_law_738 dL_law_739 dL_law_740 dL_law_741 dL_law_742 (by decide) ?_
  refine xl_callV mX9_trace [.int (xs (i + 1))] [] 0 9 1 _ rfl dL_law_743 ml_L_102 qX9_trace rfl ⟨Nat.le_of_ble_eq_true rfl, Nat.le_of_ble_eq_true rfl⟩ ⟨rfl, rfl⟩ (Nat.le_of_ble_eq_true rfl) sh_0 (by decide) rfl (Nat.le_of_ble_eq_true rfl) (xs_mono hop ?_)
  rintro r I1 L1 ⟨v, rfl, X2⟩
  refine x_aload_n 2 dL_law_746 rfl rfl ?_
  refine xl_arg 1 (by decide) hi hL dL_law_747 dL_law_748 dL_law_749 dL_law_750 dL_law_751 (by decide) ?_
  refine xl_callV mX10_trace [.int (xs (i + 1))] [.int v] 49 10 1 _ rfl dL_law_752 ml_L_105 qX10_trace rfl ⟨Nat.le_of_ble_eq_true rfl, Nat.le_of_ble_eq_true rfl⟩ ⟨rfl, rfl⟩ (Nat.le_of_ble_eq_true rfl) sh_49 (by decide) rfl (Nat.le_of_ble_eq_true rfl) (xs_mono X2 ?_)
  rintro r2 I2 L2 ⟨rfl, hR⟩
  exact x_icmp_eq 901 dL_law_755 (by decide) (fun _ => Kend I2 L2 hR) (fun h => absurd rfl h)
theorem law_22 {Lc : Nat} {xs : Nat → Int32} {i k : Nat} {I : Nat → Nat → Int32} {L : Nat → Int64} (hi : i + 5 ≤ Lc) (hL : Lc ≤ 2560) (hop : Op k mX9_untrace mX10_untrace [] I L) (Kend : ∀ I2 L2, Rel (k + 1) I2 → XL Lc xs 901 (lsL i) [] I2 L2) : XL Lc xs 760 (lsL i) [] I L := by
  refine x_aload_n 1 dL_law_760 rfl rfl ?_
  refine xl_callV mX9_untrace [] [] 0 9 0 _ rfl dL_law_761 ml_L_106 qX9_untrace rfl ⟨Nat.le_of_ble_eq_true rfl, Nat.le_of_ble_eq_true rfl⟩ ⟨rfl, rfl⟩ (Nat.le_of_ble_eq_true rfl) sh_0 (by decide) rfl (Nat.le_of_ble_eq_true rfl) (xs_mono hop ?_)
  rintro r I1 L1 ⟨v, rfl, X2⟩
  refine x_aload_n 2 dL_law_764 rfl rfl ?_
  refine xl_callV mX10_untrace [] [.int v] 49 10 0 _ rfl dL_law_765 ml_L_109 qX10_untrace rfl ⟨Nat.le_of_ble_eq_true rfl, Nat.le_of_ble_eq_true rfl⟩ ⟨rfl, rfl⟩ (Nat.le_of_ble_eq_true rfl) sh_49 (by decide) rfl (Nat.le_of_ble_eq_true rfl) (xs_mono X2 ?_)
  rintro r2 I2 L2 ⟨rfl, hR⟩
  exact x_icmp_eq 901 dL_law_768 (by decide) (fun _ => Kend I2 L2 hR) (fun h => absurd rfl h)
theorem law_23 {Lc : Nat} {xs : Nat → Int32} {i k : Nat} {I : Nat → Nat → Int32} {L : Nat → Int64} (hi : i + 5 ≤ Lc) (hL : Lc ≤ 2560) (hop : Op k mX9_brief mX10_brief [(1, .int (xs (i + 1)))] I L) (Kend : ∀ I2 L2, Rel (k + 1) I2 → XL Lc xs 901 (lsL i) [] I2 L2) : XL Lc xs 773 (lsL i) [] I L := by
  refine x_aload_n 1 dL_law_773 rfl rfl ?_
  refine xl_arg 1 (by decide) hi hL dL_law_774 dL_law_775 dL_law_776 dL_law_777 dL_law_778 (by decide) ?_
  refine xl_callV mX9_brief [.int (xs (i + 1))] [] 0 9 1 _ rfl dL_law_779 ml_L_110 qX9_brief rfl ⟨Nat.le_of_ble_eq_true rfl, Nat.le_of_ble_eq_true rfl⟩ ⟨rfl, rfl⟩ (Nat.le_of_ble_eq_true rfl) sh_0 (by decide) rfl (Nat.le_of_ble_eq_true rfl) (xs_mono hop ?_)
  rintro r I1 L1 ⟨v, rfl, X2⟩
  refine x_aload_n 2 dL_law_782 rfl rfl ?_
  refine xl_arg 1 (by decide) hi hL dL_law_783 dL_law_784 dL_law_785 dL_law_786 dL_law_787 (by decide) ?_
  refine xl_callV mX10_brief [.int (xs (i + 1))] [.int v] 49 10 1 _ rfl dL_law_788 ml_L_113 qX10_brief rfl ⟨Nat.le_of_ble_eq_true rfl, Nat.le_of_ble_eq_true rfl⟩ ⟨rfl, rfl⟩ (Nat.le_of_ble_eq_true rfl) sh_49 (by decide) rfl (Nat.le_of_ble_eq_true rfl) (xs_mono X2 ?_)
  rintro r2 I2 L2 ⟨rfl, hR⟩
  exact x_icmp_eq 901 dL_law_791 (by decide) (fun _ => Kend I2 L2 hR) (fun h => absurd rfl h)
theorem law_24 {Lc : Nat} {xs : Nat → Int32} {i k : Nat} {I : Nat → Nat → Int32} {L : Nat → Int64} (hi : i + 5 ≤ Lc) (hL : Lc ≤ 2560) (hop : Op k mX9_adopt mX10_adopt [] I L) (Kend : ∀ I2 L2, Rel (k + 1) I2 → XL Lc xs 901 (lsL i) [] I2 L2) : XL Lc xs 796 (lsL i) [] I L := by
  refine x_aload_n 1 dL_law_796 rfl rfl ?_
  refine xl_callV mX9_adopt [] [] 0 9 0 _ rfl dL_law_797 ml_L_114 qX9_adopt rfl ⟨Nat.le_of_ble_eq_true rfl, Nat.le_of_ble_eq_true rfl⟩ ⟨rfl, rfl⟩ (Nat.le_of_ble_eq_true rfl) sh_0 (by decide) rfl (Nat.le_of_ble_eq_true rfl) (xs_mono hop ?_)
  rintro r I1 L1 ⟨v, rfl, X2⟩
  refine x_aload_n 2 dL_law_800 rfl rfl ?_
  refine xl_callV mX10_adopt [] [.int v] 49 10 0 _ rfl dL_law_801 ml_L_117 qX10_adopt rfl ⟨Nat.le_of_ble_eq_true rfl, Nat.le_of_ble_eq_true rfl⟩ ⟨rfl, rfl⟩ (Nat.le_of_ble_eq_true rfl) sh_49 (by decide) rfl (Nat.le_of_ble_eq_true rfl) (xs_mono X2 ?_)
  rintro r2 I2 L2 ⟨rfl, hR⟩
  exact x_icmp_eq 901 dL_law_804 (by decide) (fun _ => Kend I2 L2 hR) (fun h => absurd rfl h)
theorem law_25 {Lc : Nat} {xs : Nat → Int32} {i k : Nat} {I : Nat → Nat → Int32} {L : Nat → Int64} (hi : i + 5 ≤ Lc) (hL : Lc ≤ 2560) (hop : Op k mX9_protect mX10_protect [(1, .int (xs (i + 1)))] I L) (Kend : ∀ I2 L2, Rel (k + 1) I2 → XL Lc xs 901 (lsL i) [] I2 L2) : XL Lc xs 809 (lsL i) [] I L := by
  refine x_aload_n 1 dL_law_809 rfl rfl ?_
  refine xl_arg 1 (by decide) hi hL dL_law_810 dL_law_811 dL_law_812 dL_law_813 dL_law_814 (by decide) ?_
  refine xl_callV mX9_protect [.int (xs (i + 1))] [] 0 9 1 _ rfl dL_law_815 ml_L_118 qX9_protect rfl ⟨Nat.le_of_ble_eq_true rfl, Nat.le_of_ble_eq_true rfl⟩ ⟨rfl, rfl⟩ (Nat.le_of_ble_eq_true rfl) sh_0 (by decide) rfl (Nat.le_of_ble_eq_true rfl) (xs_mono hop ?_)
  rintro r I1 L1 ⟨v, rfl, X2⟩
  refine x_aload_n 2 dL_law_818 rfl rfl ?_
  refine xl_arg 1 (by decide) hi hL dL_law_819 dL_law_820 dL_law_821 dL_law_822 dL_law_823 (by decide) ?_
  refine xl_callV mX10_protect [.int (xs (i + 1))] [.int v] 49 10 1 _ rfl dL_law_824 ml_L_121 qX10_protect rfl ⟨Nat.le_of_ble_eq_true rfl, Nat.le_of_ble_eq_true rfl⟩ ⟨rfl, rfl⟩ (Nat.le_of_ble_eq_true rfl) sh_49 (by decide) rfl (Nat.le_of_ble_eq_true rfl) (xs_mono X2 ?_)
  rintro r2 I2 L2 ⟨rfl, hR⟩
  exact x_icmp_eq 901 dL_law_827 (by decide) (fun _ => Kend I2 L2 hR) (fun h => absurd rfl h)
theorem law_26 {Lc : Nat} {xs : Nat → Int32} {i k : Nat} {I : Nat → Nat → Int32} {L : Nat → Int64} (hi : i + 5 ≤ Lc) (hL : Lc ≤ 2560) (hop : Op k mX9_send mX10_send [(1, .int (xs (i + 1)))] I L) (Kend : ∀ I2 L2, Rel (k + 1) I2 → XL Lc xs 901 (lsL i) [] I2 L2) : XL Lc xs 832 (lsL i) [] I L := by
  refine x_aload_n 1 dL_law_832 rfl rfl ?_
  refine xl_arg 1 (by decide) hi hL dL_law_833 dL_law_834 dL_law_835 dL_law_836 dL_law_837 (by decide) ?_
  refine xl_callV mX9_send [.int (xs (i + 1))] [] 0 9 1 _ rfl dL_law_838 ml_L_122 qX9_send rfl ⟨Nat.le_of_ble_eq_true rfl, Nat.le_of_ble_eq_true rfl⟩ ⟨rfl, rfl⟩ (Nat.le_of_ble_eq_true rfl) sh_0 (by decide) rfl (Nat.le_of_ble_eq_true rfl) (xs_mono hop ?_)
  rintro r I1 L1 ⟨v, rfl, X2⟩
  refine x_aload_n 2 dL_law_841 rfl rfl ?_
  refine xl_arg 1 (by decide) hi hL dL_law_842 dL_law_843 dL_law_844 dL_law_845 dL_law_846 (by decide) ?_
  refine xl_callV mX10_send [.int (xs (i + 1))] [.int v] 49 10 1 _ rfl dL_law_847 ml_L_125 qX10_send rfl ⟨Nat.le_of_ble_eq_true rfl, Nat.le_of_ble_eq_true rfl⟩ ⟨rfl, rfl⟩ (Nat.le_of_ble_eq_true rfl) sh_49 (by decide) rfl (Nat.le_of_ble_eq_true rfl) (xs_mono X2 ?_)
  rintro r2 I2 L2 ⟨rfl, hR⟩
  exact x_icmp_eq 901 dL_law_850 (by decide) (fun _ => Kend I2 L2 hR) (fun h => absurd rfl h)
theorem law_27 {Lc : Nat} {xs : Nat → Int32} {i k : Nat} {I : Nat → Nat → Int32} {L : Nat → Int64} (hi : i + 5 ≤ Lc) (hL : Lc ≤ 2560) (hop : Op k mX9_way mX10_way [(1, .int (xs (i + 1)))] I L) (Kend : ∀ I2 L2, Rel (k + 1) I2 → XL Lc xs 901 (lsL i) [] I2 L2) : XL Lc xs 855 (lsL i) [] I L := by
  refine x_aload_n 1 dL_law_855 rfl rfl ?_
  refine xl_arg 1 (by decide) hi hL dL_law_856 dL_law_857 dL_law_858 dL_law_859 dL_law_860 (by decide) ?_
  refine xl_callV mX9_way [.int (xs (i + 1))] [] 0 9 1 _ rfl dL_law_861 ml_L_126 qX9_way rfl ⟨Nat.le_of_ble_eq_true rfl, Nat.le_of_ble_eq_true rfl⟩ ⟨rfl, rfl⟩ (Nat.le_of_ble_eq_true rfl) sh_0 (by decide) rfl (Nat.le_of_ble_eq_true rfl) (xs_mono hop ?_)
  rintro r I1 L1 ⟨v, rfl, X2⟩
  refine x_aload_n 2 dL_law_864 rfl rfl ?_
  refine xl_arg 1 (by decide) hi hL dL_law_865 dL_law_866 dL_law_867 dL_law_868 dL_law_869 (by decide) ?_
  refine xl_callV mX10_way [.int (xs (i + 1))] [.int v] 49 10 1 _ rfl dL_law_870 ml_L_129 qX10_way rfl ⟨Nat.le_of_ble_eq_true rfl, Nat.le_of_ble_eq_true rfl⟩ ⟨rfl, rfl⟩ (Nat.le_of_ble_eq_true rfl) sh_49 (by decide) rfl (Nat.le_of_ble_eq_true rfl) (xs_mono X2 ?_)
  rintro r2 I2 L2 ⟨rfl, hR⟩
  exact x_icmp_eq 901 dL_law_873 (by decide) (fun _ => Kend I2 L2 hR) (fun h => absurd rfl h)
theorem law_28 {Lc : Nat} {xs : Nat → Int32} {i k : Nat} {I : Nat → Nat → Int32} {L : Nat → Int64} (hi : i + 5 ≤ Lc) (hL : Lc ≤ 2560) (hop : Op k mX9_count mX10_count [(1, .int (xs (i + 1)))] I L) (Kend : ∀ I2 L2, Rel (k + 1) I2 → XL Lc xs 901 (lsL i) [] I2 L2) : XL Lc xs 878 (lsL i) [] I L := by
  refine x_aload_n 1 dL_law_878 rfl rfl ?_
  refine xl_arg 1 (by decide) hi hL dL_law_879 dL_law_880 dL_law_881 dL_law_882 dL_law_883 (by decide) ?_
  refine xl_callV mX9_count [.int (xs (i + 1))] [] 0 9 1 _ rfl dL_law_884 ml_L_130 qX9_count rfl ⟨Nat.le_of_ble_eq_true rfl, Nat.le_of_ble_eq_true rfl⟩ ⟨rfl, rfl⟩ (Nat.le_of_ble_eq_true rfl) sh_0 (by decide) rfl (Nat.le_of_ble_eq_true rfl) (xs_mono hop ?_)
  rintro r I1 L1 ⟨v, rfl, X2⟩
  refine x_aload_n 2 dL_law_887 rfl rfl ?_
  refine xl_arg 1 (by decide) hi hL dL_law_888 dL_law_889 dL_law_890 dL_law_891 dL_law_892 (by decide) ?_
  refine xl_callV mX10_count [.int (xs (i + 1))] [.int v] 49 10 1 _ rfl dL_law_893 ml_L_133 qX10_count rfl ⟨Nat.le_of_ble_eq_true rfl, Nat.le_of_ble_eq_true rfl⟩ ⟨rfl, rfl⟩ (Nat.le_of_ble_eq_true rfl) sh_49 (by decide) rfl (Nat.le_of_ble_eq_true rfl) (xs_mono X2 ?_)
  rintro r2 I2 L2 ⟨rfl, hR⟩
  exact x_icmp_eq 901 dL_law_896 (by decide) (fun _ => Kend I2 L2 hR) (fun h => absurd rfl h)
theorem i_m5 {a i : Nat} (ha : a ≤ 2560) (hi : i ≤ 3000) : (nI a - (5 : Int32) < nI i) ↔ a < i + 5 := by
  by_cases h : 5 ≤ a
  · rw [show nI a - (5 : Int32) = nI (a - 5) from i_sub (a := a) (b := 5) h, nI_ltI (by omega) (by omega)]
    omega
  · have h5 : ∀ a, a < 5 → (nI a - (5 : Int32)).toInt < 0 := by decide
    have := h5 a (by omega)
    rw [Int32.lt_iff_toInt_lt, nI_toInt (by omega)]
    omega
theorem law_loop {Lc : Nat} {xs : Nat → Int32} (hL : Lc ≤ 2560) : ∀ f i k I L, Lc ≤ i + f → k ≤ i → i ≤ Lc + 5 → Rel k I → XL Lc xs 18 (lsL i) [] I L := by
  intro f
  induction f with
  | zero =>
    intro i k I L hf hk hi hR
    refine x_iload_n 3 dL_law_18 rfl rfl ?_
    refine x_aload_n 0 dL_law_19 rfl rfl ?_
    refine x_slen dL_law_20 ?_
    refine x_iconst (v := (5 : Int32)) dL_law_21 (by decide) ?_
    refine x_isub dL_law_22 ?_
    refine x_icmp_gt 907 dL_law_23 (by decide) (fun _ => ?_) (fun h => absurd ((i_m5 hL (by omega)).mpr (by omega)) h)
    refine x_iconst (v := (1 : Int32)) dL_law_907 (by decide) ?_
    exact x_iret (st := []) dL_law_908 rfl (x_nar _ (Or.inr rfl)) rfl
  | succ f ih =>
    intro i k I L hf hk hi hR
    refine x_iload_n 3 dL_law_18 rfl rfl ?_
    refine x_aload_n 0 dL_law_19 rfl rfl ?_
    refine x_slen dL_law_20 ?_
    refine x_iconst (v := (5 : Int32)) dL_law_21 (by decide) ?_
    refine x_isub dL_law_22 ?_
    refine x_icmp_gt 907 dL_law_23 (by decide) (fun _ => ?_) (fun h => ?_)
    · refine x_iconst (v := (1 : Int32)) dL_law_907 (by decide) ?_
      exact x_iret (st := []) dL_law_908 rfl (x_nar _ (Or.inr rfl)) rfl
    have hi5 : i + 5 ≤ Lc := by
      have : ¬ Lc < i + 5 := fun z => h ((i_m5 hL (by omega)).mpr z)
      omega
    have Kend : ∀ I2 L2, Rel (k + 1) I2 → XL Lc xs 901 (lsL i) [] I2 L2 := by
      intro I2 L2 hR2
      refine x_iinc 3 (nI (i + 5)) (lsL (i + 5)) dL_law_901 rfl (nI_add i 5) (Nat.le_of_ble_eq_true rfl) rfl ?_
      exact x_goto 18 dL_law_904 (by decide) (ih (i + 5) (k + 1) I2 L2 (by omega) (by omega) (by omega) hR2)
    refine x_aload_n 0 dL_law_26 rfl rfl ?_
    refine x_iload_n 3 dL_law_27 rfl rfl ?_
    refine x_sld dL_law_28 (vp_in_nI (by omega) (by omega)) ?_
    refine x_bipush (v := (31 : Int32)) dL_law_29 (by decide) ?_
    refine x_iand dL_law_31 ?_
    generalize xs (nI i).toNatClampNeg &&& (31 : Int32) = x
    by_cases g1 : x.toInt < 0
    · exact x_swOut 901 dL_law_32 (Or.inl g1) (by decide) (Kend I L hR.up)
    by_cases g2 : 28 < x.toInt
    · exact x_swOut 901 dL_law_32 (Or.inr g2) (by decide) (Kend I L hR.up)
    obtain ⟨j, hj, e⟩ := x_swcase (x := x) 0 28 g1 (by omega)
    rcases (show j = 0 ∨ j = 1 ∨ j = 2 ∨ j = 3 ∨ j = 4 ∨ j = 5 ∨ j = 6 ∨ j = 7 ∨ j = 8 ∨ j = 9 ∨ j = 10 ∨ j = 11 ∨ j = 12 ∨ j = 13 ∨ j = 14 ∨ j = 15 ∨ j = 16 ∨ j = 17 ∨ j = 18 ∨ j = 19 ∨ j = 20 ∨ j = 21 ∨ j = 22 ∨ j = 23 ∨ j = 24 ∨ j = 25 ∨ j = 26 ∨ j = 27 ∨ j = 28 by omega) with rfl | rfl | rfl | rfl | rfl | rfl | rfl | rfl | rfl | rfl | rfl | rfl | rfl | rfl | rfl | rfl | rfl | rfl | rfl | rfl | rfl | rfl | rfl | rfl | rfl | rfl | rfl | rfl | rfl
    · exact x_swIn 164 dL_law_32 g1 g2 (by rw [e]; rfl) (by decide) (law_0 hi5 hL (o_write hR) Kend)
    · exact x_swIn 187 dL_law_32 g1 g2 (by rw [e]; rfl) (by decide) (law_1 hi5 hL (o_erase hR) Kend)
    · exact x_swIn 200 dL_law_32 g1 g2 (by rw [e]; rfl) (by decide) (law_2 hi5 hL (o_fault hR) Kend)
    · exact x_swIn 213 dL_law_32 g1 g2 (by rw [e]; rfl) (by decide) (law_3 hi5 hL (o_tell hR) Kend)
    · exact x_swIn 226 dL_law_32 g1 g2 (by rw [e]; rfl) (by decide) (law_4 hi5 hL (o_link hR) Kend)
    · exact x_swIn 259 dL_law_32 g1 g2 (by rw [e]; rfl) (by decide) (law_5 hi5 hL (o_fail hR) Kend)
    · exact x_swIn 282 dL_law_32 g1 g2 (by rw [e]; rfl) (by decide) (law_6 hi5 hL (o_heal hR) Kend)
    · exact x_swIn 305 dL_law_32 g1 g2 (by rw [e]; rfl) (by decide) (law_7 hi5 hL (o_tune hR) Kend)
    · exact x_swIn 348 dL_law_32 g1 g2 (by rw [e]; rfl) (by decide) (law_8 hi5 hL (o_learn hR) Kend)
    · exact x_swIn 371 dL_law_32 g1 g2 (by rw [e]; rfl) (by decide) (law_9 hi5 hL (o_undo hR) Kend)
    · exact x_swIn 384 dL_law_32 g1 g2 (by rw [e]; rfl) (by decide) (law_10 hi5 hL (o_seen hR) Kend)
    · exact x_swIn 407 dL_law_32 g1 g2 (by rw [e]; rfl) (by decide) (law_11 hi5 hL (o_next hR) Kend)
    · exact x_swIn 450 dL_law_32 g1 g2 (by rw [e]; rfl) (by decide) (law_12 hi5 hL (o_far hR) Kend)
    · exact x_swIn 493 dL_law_32 g1 g2 (by rw [e]; rfl) (by decide) (law_13 hi5 hL (o_space hR) Kend)
    · exact x_swIn 536 dL_law_32 g1 g2 (by rw [e]; rfl) (by decide) (law_14 hi5 hL (o_rings hR) Kend)
    · exact x_swIn 559 dL_law_32 g1 g2 (by rw [e]; rfl) (by decide) (law_15 hi5 hL (o_safe hR) Kend)
    · exact x_swIn 582 dL_law_32 g1 g2 (by rw [e]; rfl) (by decide) (law_16 hi5 hL (o_order hR) Kend)
    · exact x_swIn 605 dL_law_32 g1 g2 (by rw [e]; rfl) (by decide) (law_17 hi5 hL (o_push hR) Kend)
    · exact x_swIn 638 dL_law_32 g1 g2 (by rw [e]; rfl) (by decide) (law_18 hi5 hL (o_clear hR) Kend)
    · exact x_swIn 651 dL_law_32 g1 g2 (by rw [e]; rfl) (by decide) (law_19 hi5 hL (o_segment hR) Kend)
    · exact x_swIn 684 dL_law_32 g1 g2 (by rw [e]; rfl) (by decide) (law_20 hi5 hL (o_repair hR) Kend)
    · exact x_swIn 737 dL_law_32 g1 g2 (by rw [e]; rfl) (by decide) (law_21 hi5 hL (o_trace hR) Kend)
    · exact x_swIn 760 dL_law_32 g1 g2 (by rw [e]; rfl) (by decide) (law_22 hi5 hL (o_untrace hR) Kend)
    · exact x_swIn 773 dL_law_32 g1 g2 (by rw [e]; rfl) (by decide) (law_23 hi5 hL (o_brief hR) Kend)
    · exact x_swIn 796 dL_law_32 g1 g2 (by rw [e]; rfl) (by decide) (law_24 hi5 hL (o_adopt hR) Kend)
    · exact x_swIn 809 dL_law_32 g1 g2 (by rw [e]; rfl) (by decide) (law_25 hi5 hL (o_protect hR) Kend)
    · exact x_swIn 832 dL_law_32 g1 g2 (by rw [e]; rfl) (by decide) (law_26 hi5 hL (o_send hR) Kend)
    · exact x_swIn 855 dL_law_32 g1 g2 (by rw [e]; rfl) (by decide) (law_27 hi5 hL (o_way hR (by omega)) Kend)
    · exact x_swIn 878 dL_law_32 g1 g2 (by rw [e]; rfl) (by decide) (law_28 hi5 hL (o_count hR) Kend)
theorem kSH_end : kSH 73 = x_SH := rfl
theorem rel_0 : Rel 0 k_I0 := by
  refine ⟨(2, 0, fun _ => 0, fun _ => 0, fun _ => 0, fun _ => 0, 0, fun _ => 0), ⟨⟨by decide, by decide, by decide, fun l hl => by omega, fun l l' hl => by omega⟩, fun l hl => by omega, fun l hl => by omega, by decide, fun u _ => by show 0 < 2 ^ 0; decide⟩, ⟨⟨⟨by decide +kernel, by decide +kernel, fun l hl => by omega⟩, fun l hl => by omega, fun l hl => by omega, by decide +kernel, fun u hu => ?_⟩, ⟨by decide +kernel, by decide +kernel, fun l hl => by omega⟩, fun l hl => by omega, fun l hl => by omega, by decide +kernel, fun u hu => ?_⟩, ⟨fun _ => 0, 0, ⟨by decide +kernel, by omega, fun j hj => by omega⟩, by decide +kernel, by omega, fun j hj => by omega⟩, ⟨[], by simp, fun p hp => (by cases hp), by decide +kernel, by decide +kernel, fun t ht => (by simp at ht)⟩, ⟨0, fun _ => 0, by omega, by decide +kernel, by decide +kernel, fun t ht => by omega⟩, ⟨false, by decide +kernel, by decide +kernel⟩, ⟨0, 0, fun _ => (0, fun _ => 0, fun _ => 0, fun _ => 0), by omega, by omega, by decide +kernel, by decide +kernel, by decide +kernel, rfl, fun i hi => by omega⟩, ⟨0, [], false, by omega, by simp, by decide +kernel, by decide +kernel, by decide +kernel, by decide +kernel, by decide +kernel, by decide +kernel, by decide +kernel, fun l hl => ?_, fun _ => by decide +kernel, fun q => by omega⟩⟩
  · have hu' : u < 2 := hu
    have : ∀ u, u < 2 → k_I0 448 u = nI 0 := by decide +kernel
    exact this u hu'
  · have hu' : u < 2 := hu
    have : ∀ u, u < 2 → k_I0 3392 (29 + u) = nI 0 := by decide +kernel
    exact this u hu'
  · have : ∀ l, l < 14 → k_I0 384 l = k_I0 3328 l := by decide +kernel
    exact this l hl
theorem law_start {Lc : Nat} {xs : Nat → Int32} (hL : Lc ≤ 2560) : X (some (Lc, xs)) mLw (0, 0) 0 [(0, .ref 1000020)] [] ([], fun _ _ => 0, fun _ => 0, fun _ => none) (fun r _ => r = some (.int 1)) := by
  refine xk_new 9 0 (0, 0) (1, 9) (kSH 1) dL_law_0 (by decide) cl_L_7 x_ins9 rfl rfl rfl (Nat.le_of_ble_eq_true rfl) (Nat.le_of_ble_eq_true rfl) (Nat.le_of_ble_eq_true rfl) rfl rfl ?_
  refine x_dup dL_law_3 rfl ?_
  refine x_callC mX9_init [] [.ref 0] 0 0 _ rfl dL_law_4 ml_L_9 qX9_init rfl ⟨Nat.le_of_ble_eq_true rfl, Nat.le_of_ble_eq_true rfl⟩ ⟨Nat.le_of_ble_eq_true rfl, Nat.le_of_ble_eq_true rfl⟩ (Nat.le_of_ble_eq_true rfl) (Nat.le_of_ble_eq_true rfl) (Or.inr ⟨rfl, rfl⟩) (kc_15_X9_init ?_)
  show X (some (Lc, xs)) mLw (49, 1124) 7 [(0, .ref 1000020)] [.ref 0] (kSH 49, k_I9, k_L9, kR_58) _
  refine x_astore_n [(0, .ref 1000020), (1, .ref 0)] dL_law_7 rfl (Nat.le_of_ble_eq_true rfl) rfl ?_
  refine xk_new 10 49 (49, 1124) (50, 1169) (kSH 50) dL_law_8 (by decide) cl_L_10 x_ins10 rfl rfl rfl (Nat.le_of_ble_eq_true rfl) (Nat.le_of_ble_eq_true rfl) (Nat.le_of_ble_eq_true rfl) rfl rfl ?_
  refine x_dup dL_law_11 rfl ?_
  refine x_callC mX10_init [] [.ref 49] 49 0 _ rfl dL_law_12 ml_L_12 qX10_init rfl ⟨Nat.le_of_ble_eq_true rfl, Nat.le_of_ble_eq_true rfl⟩ ⟨Nat.le_of_ble_eq_true rfl, Nat.le_of_ble_eq_true rfl⟩ (Nat.le_of_ble_eq_true rfl) (Nat.le_of_ble_eq_true rfl) (Or.inr ⟨rfl, rfl⟩) (kc_16_X10_init ?_)
  show X (some (Lc, xs)) mLw (73, 2409) 15 [(0, .ref 1000020), (1, .ref 0)] [.ref 49] (kSH 73, k_I0, k_L0, kR_81) _
  rw [kSH_end, kR_end]
  refine x_astore_n [(0, .ref 1000020), (1, .ref 0), (2, .ref 49)] dL_law_15 rfl (Nat.le_of_ble_eq_true rfl) rfl ?_
  refine x_iconst (v := nI 0) dL_law_16 (by decide) ?_
  refine x_istore_n (lsL 0) dL_law_17 rfl (Nat.le_of_ble_eq_true rfl) rfl ?_
  exact law_loop hL Lc 0 0 k_I0 k_L0 (by omega) (by omega) (by omega) rel_0
