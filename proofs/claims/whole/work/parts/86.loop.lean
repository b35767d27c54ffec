/-! THE LAW's own loop -/
abbrev mL_law : Mth := (RL, yL_law, cL_law, 4, some .boolean)
theorem R64_t (x : Int64) : -9223372036854775808 ≤ x.toInt ∧ x.toInt ≤ 9223372036854775807 := by
  have h1 := Int64.le_toInt x
  have h2 := Int64.toInt_lt x
  omega
theorem vi_c (x : Int) : vi x = vi (Int32.ofInt x).toInt := (vi_t (Int32.ofInt x)).symm
theorem vl_c (x : Int) : vl x = vl (Int64.ofInt x).toInt := congrArg Value.long (Int64.ofInt_toInt (Int64.ofInt x)).symm
theorem iAnd_63 (a : Int) : 0 ≤ iAnd a 63 ∧ iAnd a 63 ≤ 63 := by
  obtain ⟨j, h1, h2⟩ := pk_andE (Int32.ofInt a) (m := Int32.ofInt 63) 6 (by decide)
  unfold iAnd
  rw [h2, nI_toInt (by omega)]
  omega
section ES
variable {w : Scr} {d : Nat} {y : Mth} {pc pc2 : Nat} {lv st : List Value} {σ : St} {post : Option Value → St → Prop}
theorem ev_icmp_sm {x : Int} {off : Int} (tgt : Nat) (hN : Nx y.2.2.1 pc (.if_icmp .eq off) 3 pc2) (ht : (pc : Int) + off = (tgt : Int)) (k : EvG w d y tgt lv st σ post) : EvG w d y pc lv (vi x :: vi x :: st) σ post := by
  rw [vi_c x]
  exact ev_icmp_eq tgt hN ht (R32_t _) (R32_t _) (fun _ => k) (fun h => absurd rfl h)
theorem ev_lif_sm {x : Int} {off : Int} {pc3 : Nat} (tgt : Nat) (hN : Nx y.2.2.1 pc .lcmp 1 pc2) (hM : Nx y.2.2.1 pc2 (.ifCond .eq off) 3 pc3) (ht : (pc2 : Int) + off = (tgt : Int)) (k : EvG w d y tgt lv st σ post) : EvG w d y pc lv (vl x :: vl x :: st) σ post := by
  rw [vl_c x]
  exact ev_lif_eq tgt hN hM ht (R64_t _) (R64_t _) (fun _ => k) (fun h => absurd rfl h)
end ES
def LwP : Option Value → St → Prop := fun r _ => r = some (vi 1)
abbrev llv (i : Nat) : List Value := [.ref 66, .ref 0, .ref 45, vi (i : Int)]
theorem lw_c0 {w : Scr} (hwn : w.1 ≤ 3584) (hw : ∀ j, j < w.1 → -2147483648 ≤ w.2 j ∧ w.2 j ≤ 2147483647) {i : Nat} (hi : i + 7 ≤ w.1) (ih : ∀ χ, Inv χ → EvG w 9 mL_law 1394 (llv i) [] χ LwP) {σ : St} (hI : Inv σ) : EvG w 9 mL_law 196 (llv i) [] σ LwP := by
  obtain ⟨Po, c1, k1⟩ := j_row hI (hw (i + 1) (by omega)) (hw (i + 2) (by omega)) (hw (i + 3) (by omega))
  refine ev_aload_n eL_law_196 rfl ?_
  refine ev_aload_n eL_law_197 rfl ?_
  refine ev_iload_n eL_law_198 rfl ?_
  refine ev_iconst eL_law_199 ?_
  refine ev_iadd eL_law_200 ?_
  refine ev_sld (i + 1) eL_law_201 rfl (by omega) (by omega) (by omega) ?_
  refine ev_aload_n eL_law_202 rfl ?_
  refine ev_iload_n eL_law_203 rfl ?_
  refine ev_iconst eL_law_204 ?_
  refine ev_iadd eL_law_205 ?_
  refine ev_sld (i + 2) eL_law_206 rfl (by omega) (by omega) (by omega) ?_
  refine ev_aload_n eL_law_207 rfl ?_
  refine ev_iload_n eL_law_208 rfl ?_
  refine ev_iconst eL_law_209 ?_
  refine ev_iadd eL_law_210 ?_
  refine ev_sld (i + 3) eL_law_211 rfl (by omega) (by omega) (by omega) ?_
  refine ev_cV3 eL_law_212 ⟨lL_13, kX11_row⟩ rfl rfl c1 ?_
  intro r τ hp
  obtain ⟨X, rfl, Pm, c2, k2⟩ := k1 r τ hp
  refine ev_aload_n eL_law_215 rfl ?_
  refine ev_aload_n eL_law_216 rfl ?_
  refine ev_iload_n eL_law_217 rfl ?_
  refine ev_iconst eL_law_218 ?_
  refine ev_iadd eL_law_219 ?_
  refine ev_sld (i + 1) eL_law_220 rfl (by omega) (by omega) (by omega) ?_
  refine ev_aload_n eL_law_221 rfl ?_
  refine ev_iload_n eL_law_222 rfl ?_
  refine ev_iconst eL_law_223 ?_
  refine ev_iadd eL_law_224 ?_
  refine ev_sld (i + 2) eL_law_225 rfl (by omega) (by omega) (by omega) ?_
  refine ev_aload_n eL_law_226 rfl ?_
  refine ev_iload_n eL_law_227 rfl ?_
  refine ev_iconst eL_law_228 ?_
  refine ev_iadd eL_law_229 ?_
  refine ev_sld (i + 3) eL_law_230 rfl (by omega) (by omega) (by omega) ?_
  refine ev_cV3 eL_law_231 ⟨lL_17, kX12_row⟩ rfl rfl c2 ?_
  intro r2 χ hq
  obtain ⟨rfl, hI2⟩ := k2 r2 χ hq
  exact ev_icmp_sm 1394 eL_law_234 rfl (ih χ hI2)
theorem lw_c1 {w : Scr} (hwn : w.1 ≤ 3584) (hw : ∀ j, j < w.1 → -2147483648 ≤ w.2 j ∧ w.2 j ≤ 2147483647) {i : Nat} (hi : i + 7 ≤ w.1) (ih : ∀ χ, Inv χ → EvG w 9 mL_law 1394 (llv i) [] χ LwP) {σ : St} (hI : Inv σ) : EvG w 9 mL_law 239 (llv i) [] σ LwP := by
  obtain ⟨Po, c1, k1⟩ := j_set hI (hw (i + 1) (by omega)) (hw (i + 2) (by omega)) (hw (i + 3) (by omega))
  refine ev_aload_n eL_law_239 rfl ?_
  refine ev_aload_n eL_law_240 rfl ?_
  refine ev_iload_n eL_law_241 rfl ?_
  refine ev_iconst eL_law_242 ?_
  refine ev_iadd eL_law_243 ?_
  refine ev_sld (i + 1) eL_law_244 rfl (by omega) (by omega) (by omega) ?_
  refine ev_aload_n eL_law_245 rfl ?_
  refine ev_iload_n eL_law_246 rfl ?_
  refine ev_iconst eL_law_247 ?_
  refine ev_iadd eL_law_248 ?_
  refine ev_sld (i + 2) eL_law_249 rfl (by omega) (by omega) (by omega) ?_
  refine ev_aload_n eL_law_250 rfl ?_
  refine ev_iload_n eL_law_251 rfl ?_
  refine ev_iconst eL_law_252 ?_
  refine ev_iadd eL_law_253 ?_
  refine ev_sld (i + 3) eL_law_254 rfl (by omega) (by omega) (by omega) ?_
  refine ev_cV3 eL_law_255 ⟨lL_18, kX11_set⟩ rfl rfl c1 ?_
  intro r τ hp
  obtain ⟨X, rfl, Pm, c2, k2⟩ := k1 r τ hp
  refine ev_aload_n eL_law_258 rfl ?_
  refine ev_aload_n eL_law_259 rfl ?_
  refine ev_iload_n eL_law_260 rfl ?_
  refine ev_iconst eL_law_261 ?_
  refine ev_iadd eL_law_262 ?_
  refine ev_sld (i + 1) eL_law_263 rfl (by omega) (by omega) (by omega) ?_
  refine ev_aload_n eL_law_264 rfl ?_
  refine ev_iload_n eL_law_265 rfl ?_
  refine ev_iconst eL_law_266 ?_
  refine ev_iadd eL_law_267 ?_
  refine ev_sld (i + 2) eL_law_268 rfl (by omega) (by omega) (by omega) ?_
  refine ev_aload_n eL_law_269 rfl ?_
  refine ev_iload_n eL_law_270 rfl ?_
  refine ev_iconst eL_law_271 ?_
  refine ev_iadd eL_law_272 ?_
  refine ev_sld (i + 3) eL_law_273 rfl (by omega) (by omega) (by omega) ?_
  refine ev_cV3 eL_law_274 ⟨lL_21, kX12_set⟩ rfl rfl c2 ?_
  intro r2 χ hq
  obtain ⟨rfl, hI2⟩ := k2 r2 χ hq
  exact ev_icmp_sm 1394 eL_law_277 rfl (ih χ hI2)
theorem lw_c2 {w : Scr} (hwn : w.1 ≤ 3584) (hw : ∀ j, j < w.1 → -2147483648 ≤ w.2 j ∧ w.2 j ≤ 2147483647) {i : Nat} (hi : i + 7 ≤ w.1) (ih : ∀ χ, Inv χ → EvG w 9 mL_law 1394 (llv i) [] χ LwP) {σ : St} (hI : Inv σ) : EvG w 9 mL_law 282 (llv i) [] σ LwP := by
  obtain ⟨Po, c1, k1⟩ := j_copy hI (hw (i + 1) (by omega)) (hw (i + 2) (by omega)) (hw (i + 3) (by omega)) (hw (i + 4) (by omega)) (hw (i + 5) (by omega))
  refine ev_aload_n eL_law_282 rfl ?_
  refine ev_aload_n eL_law_283 rfl ?_
  refine ev_iload_n eL_law_284 rfl ?_
  refine ev_iconst eL_law_285 ?_
  refine ev_iadd eL_law_286 ?_
  refine ev_sld (i + 1) eL_law_287 rfl (by omega) (by omega) (by omega) ?_
  refine ev_aload_n eL_law_288 rfl ?_
  refine ev_iload_n eL_law_289 rfl ?_
  refine ev_iconst eL_law_290 ?_
  refine ev_iadd eL_law_291 ?_
  refine ev_sld (i + 2) eL_law_292 rfl (by omega) (by omega) (by omega) ?_
  refine ev_aload_n eL_law_293 rfl ?_
  refine ev_iload_n eL_law_294 rfl ?_
  refine ev_iconst eL_law_295 ?_
  refine ev_iadd eL_law_296 ?_
  refine ev_sld (i + 3) eL_law_297 rfl (by omega) (by omega) (by omega) ?_
  refine ev_aload_n eL_law_298 rfl ?_
  refine ev_iload_n eL_law_299 rfl ?_
  refine ev_iconst eL_law_300 ?_
  refine ev_iadd eL_law_301 ?_
  refine ev_sld (i + 4) eL_law_302 rfl (by omega) (by omega) (by omega) ?_
  refine ev_aload_n eL_law_303 rfl ?_
  refine ev_iload_n eL_law_304 rfl ?_
  refine ev_iconst eL_law_305 ?_
  refine ev_iadd eL_law_306 ?_
  refine ev_sld (i + 5) eL_law_307 rfl (by omega) (by omega) (by omega) ?_
  refine ev_cV5 eL_law_308 ⟨lL_22, kX11_copy⟩ rfl rfl c1 ?_
  intro r τ hp
  obtain ⟨X, rfl, Pm, c2, k2⟩ := k1 r τ hp
  refine ev_aload_n eL_law_311 rfl ?_
  refine ev_aload_n eL_law_312 rfl ?_
  refine ev_iload_n eL_law_313 rfl ?_
  refine ev_iconst eL_law_314 ?_
  refine ev_iadd eL_law_315 ?_
  refine ev_sld (i + 1) eL_law_316 rfl (by omega) (by omega) (by omega) ?_
  refine ev_aload_n eL_law_317 rfl ?_
  refine ev_iload_n eL_law_318 rfl ?_
  refine ev_iconst eL_law_319 ?_
  refine ev_iadd eL_law_320 ?_
  refine ev_sld (i + 2) eL_law_321 rfl (by omega) (by omega) (by omega) ?_
  refine ev_aload_n eL_law_322 rfl ?_
  refine ev_iload_n eL_law_323 rfl ?_
  refine ev_iconst eL_law_324 ?_
  refine ev_iadd eL_law_325 ?_
  refine ev_sld (i + 3) eL_law_326 rfl (by omega) (by omega) (by omega) ?_
  refine ev_aload_n eL_law_327 rfl ?_
  refine ev_iload_n eL_law_328 rfl ?_
  refine ev_iconst eL_law_329 ?_
  refine ev_iadd eL_law_330 ?_
  refine ev_sld (i + 4) eL_law_331 rfl (by omega) (by omega) (by omega) ?_
  refine ev_aload_n eL_law_332 rfl ?_
  refine ev_iload_n eL_law_333 rfl ?_
  refine ev_iconst eL_law_334 ?_
  refine ev_iadd eL_law_335 ?_
  refine ev_sld (i + 5) eL_law_336 rfl (by omega) (by omega) (by omega) ?_
  refine ev_cV5 eL_law_337 ⟨lL_26, kX12_copy⟩ rfl rfl c2 ?_
  intro r2 χ hq
  obtain ⟨rfl, hI2⟩ := k2 r2 χ hq
  exact ev_icmp_sm 1394 eL_law_340 rfl (ih χ hI2)
theorem lw_c3 {w : Scr} (hwn : w.1 ≤ 3584) (hw : ∀ j, j < w.1 → -2147483648 ≤ w.2 j ∧ w.2 j ≤ 2147483647) {i : Nat} (hi : i + 7 ≤ w.1) (ih : ∀ χ, Inv χ → EvG w 9 mL_law 1394 (llv i) [] χ LwP) {σ : St} (hI : Inv σ) : EvG w 9 mL_law 345 (llv i) [] σ LwP := by
  obtain ⟨Po, c1, k1⟩ := j_drop hI (hw (i + 1) (by omega))
  refine ev_aload_n eL_law_345 rfl ?_
  refine ev_aload_n eL_law_346 rfl ?_
  refine ev_iload_n eL_law_347 rfl ?_
  refine ev_iconst eL_law_348 ?_
  refine ev_iadd eL_law_349 ?_
  refine ev_sld (i + 1) eL_law_350 rfl (by omega) (by omega) (by omega) ?_
  refine ev_cV1 eL_law_351 ⟨lL_27, kX11_drop⟩ rfl rfl c1 ?_
  intro r τ hp
  obtain ⟨X, rfl, Pm, c2, k2⟩ := k1 r τ hp
  refine ev_aload_n eL_law_354 rfl ?_
  refine ev_aload_n eL_law_355 rfl ?_
  refine ev_iload_n eL_law_356 rfl ?_
  refine ev_iconst eL_law_357 ?_
  refine ev_iadd eL_law_358 ?_
  refine ev_sld (i + 1) eL_law_359 rfl (by omega) (by omega) (by omega) ?_
  refine ev_cV1 eL_law_360 ⟨lL_31, kX12_drop⟩ rfl rfl c2 ?_
  intro r2 χ hq
  obtain ⟨rfl, hI2⟩ := k2 r2 χ hq
  exact ev_icmp_sm 1394 eL_law_363 rfl (ih χ hI2)
theorem lw_c4 {w : Scr} (hwn : w.1 ≤ 3584) (hw : ∀ j, j < w.1 → -2147483648 ≤ w.2 j ∧ w.2 j ≤ 2147483647) {i : Nat} (hi : i + 7 ≤ w.1) (ih : ∀ χ, Inv χ → EvG w 9 mL_law 1394 (llv i) [] χ LwP) {σ : St} (hI : Inv σ) : EvG w 9 mL_law 368 (llv i) [] σ LwP := by
  obtain ⟨Po, c1, k1⟩ := j_feed hI (hw (i + 1) (by omega))
  refine ev_aload_n eL_law_368 rfl ?_
  refine ev_aload_n eL_law_369 rfl ?_
  refine ev_iload_n eL_law_370 rfl ?_
  refine ev_iconst eL_law_371 ?_
  refine ev_iadd eL_law_372 ?_
  refine ev_sld (i + 1) eL_law_373 rfl (by omega) (by omega) (by omega) ?_
  refine ev_cV1 eL_law_374 ⟨lL_32, kX11_feed⟩ rfl rfl c1 ?_
  intro r τ hp
  obtain ⟨X, rfl, Pm, c2, k2⟩ := k1 r τ hp
  refine ev_aload_n eL_law_377 rfl ?_
  refine ev_aload_n eL_law_378 rfl ?_
  refine ev_iload_n eL_law_379 rfl ?_
  refine ev_iconst eL_law_380 ?_
  refine ev_iadd eL_law_381 ?_
  refine ev_sld (i + 1) eL_law_382 rfl (by omega) (by omega) (by omega) ?_
  refine ev_cV1 eL_law_383 ⟨lL_35, kX12_feed⟩ rfl rfl c2 ?_
  intro r2 χ hq
  obtain ⟨rfl, hI2⟩ := k2 r2 χ hq
  exact ev_icmp_sm 1394 eL_law_386 rfl (ih χ hI2)
theorem lw_c5 {w : Scr} (hwn : w.1 ≤ 3584) (hw : ∀ j, j < w.1 → -2147483648 ≤ w.2 j ∧ w.2 j ≤ 2147483647) {i : Nat} (hi : i + 7 ≤ w.1) (ih : ∀ χ, Inv χ → EvG w 9 mL_law 1394 (llv i) [] χ LwP) {σ : St} (hI : Inv σ) : EvG w 9 mL_law 391 (llv i) [] σ LwP := by
  obtain ⟨Po, c1, k1⟩ := j_book hI
  refine ev_aload_n eL_law_391 rfl ?_
  refine ev_cV0 eL_law_392 ⟨lL_36, kX11_book⟩ rfl rfl c1 ?_
  intro r τ hp
  obtain ⟨X, rfl, Pm, c2, k2⟩ := k1 r τ hp
  refine ev_aload_n eL_law_395 rfl ?_
  refine ev_cV0 eL_law_396 ⟨lL_40, kX12_book⟩ rfl rfl c2 ?_
  intro r2 χ hq
  obtain ⟨rfl, hI2⟩ := k2 r2 χ hq
  exact ev_icmp_sm 1394 eL_law_399 rfl (ih χ hI2)
theorem lw_c6 {w : Scr} (hwn : w.1 ≤ 3584) (hw : ∀ j, j < w.1 → -2147483648 ≤ w.2 j ∧ w.2 j ≤ 2147483647) {i : Nat} (hi : i + 7 ≤ w.1) (ih : ∀ χ, Inv χ → EvG w 9 mL_law 1394 (llv i) [] χ LwP) {σ : St} (hI : Inv σ) : EvG w 9 mL_law 404 (llv i) [] σ LwP := by
  obtain ⟨Po, c1, k1⟩ := j_fault hI
  refine ev_aload_n eL_law_404 rfl ?_
  refine ev_cV0 eL_law_405 ⟨lL_41, kX11_fault⟩ rfl rfl c1 ?_
  intro r τ hp
  obtain ⟨X, rfl, Pm, c2, k2⟩ := k1 r τ hp
  refine ev_aload_n eL_law_408 rfl ?_
  refine ev_cV0 eL_law_409 ⟨lL_44, kX12_fault⟩ rfl rfl c2 ?_
  intro r2 χ hq
  obtain ⟨rfl, hI2⟩ := k2 r2 χ hq
  exact ev_icmp_sm 1394 eL_law_412 rfl (ih χ hI2)
theorem lw_c7 {w : Scr} (hwn : w.1 ≤ 3584) (hw : ∀ j, j < w.1 → -2147483648 ≤ w.2 j ∧ w.2 j ≤ 2147483647) {i : Nat} (hi : i + 7 ≤ w.1) (ih : ∀ χ, Inv χ → EvG w 9 mL_law 1394 (llv i) [] χ LwP) {σ : St} (hI : Inv σ) : EvG w 9 mL_law 417 (llv i) [] σ LwP := by
  obtain ⟨Po, c1, k1⟩ := j_undo hI
  refine ev_aload_n eL_law_417 rfl ?_
  refine ev_cV0 eL_law_418 ⟨lL_45, kX11_undo⟩ rfl rfl c1 ?_
  intro r τ hp
  obtain ⟨X, rfl, Pm, c2, k2⟩ := k1 r τ hp
  refine ev_aload_n eL_law_421 rfl ?_
  refine ev_cV0 eL_law_422 ⟨lL_48, kX12_undo⟩ rfl rfl c2 ?_
  intro r2 χ hq
  obtain ⟨rfl, hI2⟩ := k2 r2 χ hq
  exact ev_icmp_sm 1394 eL_law_425 rfl (ih χ hI2)
theorem lw_c8 {w : Scr} (hwn : w.1 ≤ 3584) (hw : ∀ j, j < w.1 → -2147483648 ≤ w.2 j ∧ w.2 j ≤ 2147483647) {i : Nat} (hi : i + 7 ≤ w.1) (ih : ∀ χ, Inv χ → EvG w 9 mL_law 1394 (llv i) [] χ LwP) {σ : St} (hI : Inv σ) : EvG w 9 mL_law 430 (llv i) [] σ LwP := by
  obtain ⟨Po, c1, k1⟩ := j_word hI (hw (i + 1) (by omega)) (hw (i + 2) (by omega)) (hw (i + 3) (by omega))
  refine ev_aload_n eL_law_430 rfl ?_
  refine ev_aload_n eL_law_431 rfl ?_
  refine ev_iload_n eL_law_432 rfl ?_
  refine ev_iconst eL_law_433 ?_
  refine ev_iadd eL_law_434 ?_
  refine ev_sld (i + 1) eL_law_435 rfl (by omega) (by omega) (by omega) ?_
  refine ev_aload_n eL_law_436 rfl ?_
  refine ev_iload_n eL_law_437 rfl ?_
  refine ev_iconst eL_law_438 ?_
  refine ev_iadd eL_law_439 ?_
  refine ev_sld (i + 2) eL_law_440 rfl (by omega) (by omega) (by omega) ?_
  refine ev_aload_n eL_law_441 rfl ?_
  refine ev_iload_n eL_law_442 rfl ?_
  refine ev_iconst eL_law_443 ?_
  refine ev_iadd eL_law_444 ?_
  refine ev_sld (i + 3) eL_law_445 rfl (by omega) (by omega) (by omega) ?_
  refine ev_cV3 eL_law_446 ⟨lL_49, kX11_word⟩ rfl rfl c1 ?_
  intro r τ hp
  obtain ⟨X, rfl, Pm, c2, k2⟩ := k1 r τ hp
  refine ev_aload_n eL_law_449 rfl ?_
  refine ev_aload_n eL_law_450 rfl ?_
  refine ev_iload_n eL_law_451 rfl ?_
  refine ev_iconst eL_law_452 ?_
  refine ev_iadd eL_law_453 ?_
  refine ev_sld (i + 1) eL_law_454 rfl (by omega) (by omega) (by omega) ?_
  refine ev_aload_n eL_law_455 rfl ?_
  refine ev_iload_n eL_law_456 rfl ?_
  refine ev_iconst eL_law_457 ?_
  refine ev_iadd eL_law_458 ?_
  refine ev_sld (i + 2) eL_law_459 rfl (by omega) (by omega) (by omega) ?_
  refine ev_aload_n eL_law_460 rfl ?_
  refine ev_iload_n eL_law_461 rfl ?_
  refine ev_iconst eL_law_462 ?_
  refine ev_iadd eL_law_463 ?_
  refine ev_sld (i + 3) eL_law_464 rfl (by omega) (by omega) (by omega) ?_
  refine ev_cV3 eL_law_465 ⟨lL_52, kX12_word⟩ rfl rfl c2 ?_
  intro r2 χ hq
  obtain ⟨rfl, hI2⟩ := k2 r2 χ hq
  exact ev_icmp_sm 1394 eL_law_468 rfl (ih χ hI2)
theorem lw_c9 {w : Scr} (hwn : w.1 ≤ 3584) (hw : ∀ j, j < w.1 → -2147483648 ≤ w.2 j ∧ w.2 j ≤ 2147483647) {i : Nat} (hi : i + 7 ≤ w.1) (ih : ∀ χ, Inv χ → EvG w 9 mL_law 1394 (llv i) [] χ LwP) {σ : St} (hI : Inv σ) : EvG w 9 mL_law 473 (llv i) [] σ LwP := by
  obtain ⟨Po, c1, k1⟩ := j_length hI (hw (i + 1) (by omega)) (hw (i + 2) (by omega)) (hw (i + 3) (by omega))
  refine ev_aload_n eL_law_473 rfl ?_
  refine ev_aload_n eL_law_474 rfl ?_
  refine ev_iload_n eL_law_475 rfl ?_
  refine ev_iconst eL_law_476 ?_
  refine ev_iadd eL_law_477 ?_
  refine ev_sld (i + 1) eL_law_478 rfl (by omega) (by omega) (by omega) ?_
  refine ev_aload_n eL_law_479 rfl ?_
  refine ev_iload_n eL_law_480 rfl ?_
  refine ev_iconst eL_law_481 ?_
  refine ev_iadd eL_law_482 ?_
  refine ev_sld (i + 2) eL_law_483 rfl (by omega) (by omega) (by omega) ?_
  refine ev_aload_n eL_law_484 rfl ?_
  refine ev_iload_n eL_law_485 rfl ?_
  refine ev_iconst eL_law_486 ?_
  refine ev_iadd eL_law_487 ?_
  refine ev_sld (i + 3) eL_law_488 rfl (by omega) (by omega) (by omega) ?_
  refine ev_cV3 eL_law_489 ⟨lL_53, kX11_length⟩ rfl rfl c1 ?_
  intro r τ hp
  obtain ⟨X, rfl, Pm, c2, k2⟩ := k1 r τ hp
  refine ev_aload_n eL_law_492 rfl ?_
  refine ev_aload_n eL_law_493 rfl ?_
  refine ev_iload_n eL_law_494 rfl ?_
  refine ev_iconst eL_law_495 ?_
  refine ev_iadd eL_law_496 ?_
  refine ev_sld (i + 1) eL_law_497 rfl (by omega) (by omega) (by omega) ?_
  refine ev_aload_n eL_law_498 rfl ?_
  refine ev_iload_n eL_law_499 rfl ?_
  refine ev_iconst eL_law_500 ?_
  refine ev_iadd eL_law_501 ?_
  refine ev_sld (i + 2) eL_law_502 rfl (by omega) (by omega) (by omega) ?_
  refine ev_aload_n eL_law_503 rfl ?_
  refine ev_iload_n eL_law_504 rfl ?_
  refine ev_iconst eL_law_505 ?_
  refine ev_iadd eL_law_506 ?_
  refine ev_sld (i + 3) eL_law_507 rfl (by omega) (by omega) (by omega) ?_
  refine ev_cV3 eL_law_508 ⟨lL_56, kX12_length⟩ rfl rfl c2 ?_
  intro r2 χ hq
  obtain ⟨rfl, hI2⟩ := k2 r2 χ hq
  exact ev_icmp_sm 1394 eL_law_511 rfl (ih χ hI2)
theorem lw_c10 {w : Scr} (hwn : w.1 ≤ 3584) (hw : ∀ j, j < w.1 → -2147483648 ≤ w.2 j ∧ w.2 j ≤ 2147483647) {i : Nat} (hi : i + 7 ≤ w.1) (ih : ∀ χ, Inv χ → EvG w 9 mL_law 1394 (llv i) [] χ LwP) {σ : St} (hI : Inv σ) : EvG w 9 mL_law 516 (llv i) [] σ LwP := by
  obtain ⟨Po, c1, k1⟩ := j_become hI (hw (i + 1) (by omega)) (hw (i + 2) (by omega))
  refine ev_aload_n eL_law_516 rfl ?_
  refine ev_aload_n eL_law_517 rfl ?_
  refine ev_iload_n eL_law_518 rfl ?_
  refine ev_iconst eL_law_519 ?_
  refine ev_iadd eL_law_520 ?_
  refine ev_sld (i + 1) eL_law_521 rfl (by omega) (by omega) (by omega) ?_
  refine ev_aload_n eL_law_522 rfl ?_
  refine ev_iload_n eL_law_523 rfl ?_
  refine ev_iconst eL_law_524 ?_
  refine ev_iadd eL_law_525 ?_
  refine ev_sld (i + 2) eL_law_526 rfl (by omega) (by omega) (by omega) ?_
  refine ev_cV2 eL_law_527 ⟨lL_57, kX11_become⟩ rfl rfl c1 ?_
  intro r τ hp
  obtain ⟨X, rfl, Pm, c2, k2⟩ := k1 r τ hp
  refine ev_aload_n eL_law_530 rfl ?_
  refine ev_aload_n eL_law_531 rfl ?_
  refine ev_iload_n eL_law_532 rfl ?_
  refine ev_iconst eL_law_533 ?_
  refine ev_iadd eL_law_534 ?_
  refine ev_sld (i + 1) eL_law_535 rfl (by omega) (by omega) (by omega) ?_
  refine ev_aload_n eL_law_536 rfl ?_
  refine ev_iload_n eL_law_537 rfl ?_
  refine ev_iconst eL_law_538 ?_
  refine ev_iadd eL_law_539 ?_
  refine ev_sld (i + 2) eL_law_540 rfl (by omega) (by omega) (by omega) ?_
  refine ev_cV2 eL_law_541 ⟨lL_61, kX12_become⟩ rfl rfl c2 ?_
  intro r2 χ hq
  obtain ⟨rfl, hI2⟩ := k2 r2 χ hq
  exact ev_icmp_sm 1394 eL_law_544 rfl (ih χ hI2)
theorem lw_c11 {w : Scr} (hwn : w.1 ≤ 3584) (hw : ∀ j, j < w.1 → -2147483648 ≤ w.2 j ∧ w.2 j ≤ 2147483647) {i : Nat} (hi : i + 7 ≤ w.1) (ih : ∀ χ, Inv χ → EvG w 9 mL_law 1394 (llv i) [] χ LwP) {σ : St} (hI : Inv σ) : EvG w 9 mL_law 549 (llv i) [] σ LwP := by
  obtain ⟨Po, c1, k1⟩ := j_root hI (hw (i + 1) (by omega)) (hw (i + 2) (by omega))
  refine ev_aload_n eL_law_549 rfl ?_
  refine ev_aload_n eL_law_550 rfl ?_
  refine ev_iload_n eL_law_551 rfl ?_
  refine ev_iconst eL_law_552 ?_
  refine ev_iadd eL_law_553 ?_
  refine ev_sld (i + 1) eL_law_554 rfl (by omega) (by omega) (by omega) ?_
  refine ev_aload_n eL_law_555 rfl ?_
  refine ev_iload_n eL_law_556 rfl ?_
  refine ev_iconst eL_law_557 ?_
  refine ev_iadd eL_law_558 ?_
  refine ev_sld (i + 2) eL_law_559 rfl (by omega) (by omega) (by omega) ?_
  refine ev_cV2 eL_law_560 ⟨lL_62, kX11_root⟩ rfl rfl c1 ?_
  intro r τ hp
  obtain ⟨X, rfl, Pm, c2, k2⟩ := k1 r τ hp
  refine ev_aload_n eL_law_563 rfl ?_
  refine ev_aload_n eL_law_564 rfl ?_
  refine ev_iload_n eL_law_565 rfl ?_
  refine ev_iconst eL_law_566 ?_
  refine ev_iadd eL_law_567 ?_
  refine ev_sld (i + 1) eL_law_568 rfl (by omega) (by omega) (by omega) ?_
  refine ev_aload_n eL_law_569 rfl ?_
  refine ev_iload_n eL_law_570 rfl ?_
  refine ev_iconst eL_law_571 ?_
  refine ev_iadd eL_law_572 ?_
  refine ev_sld (i + 2) eL_law_573 rfl (by omega) (by omega) (by omega) ?_
  refine ev_cV2 eL_law_574 ⟨lL_65, kX12_root⟩ rfl rfl c2 ?_
  intro r2 χ hq
  obtain ⟨rfl, hI2⟩ := k2 r2 χ hq
  exact ev_icmp_sm 1394 eL_law_577 rfl (ih χ hI2)
theorem lw_c12 {w : Scr} (hwn : w.1 ≤ 3584) (hw : ∀ j, j < w.1 → -2147483648 ≤ w.2 j ∧ w.2 j ≤ 2147483647) {i : Nat} (hi : i + 7 ≤ w.1) (ih : ∀ χ, Inv χ → EvG w 9 mL_law 1394 (llv i) [] χ LwP) {σ : St} (hI : Inv σ) : EvG w 9 mL_law 582 (llv i) [] σ LwP := by
  obtain ⟨Po, c1, k1⟩ := j_begin hI (hw (i + 1) (by omega)) (hw (i + 2) (by omega))
  refine ev_aload_n eL_law_582 rfl ?_
  refine ev_aload_n eL_law_583 rfl ?_
  refine ev_iload_n eL_law_584 rfl ?_
  refine ev_iconst eL_law_585 ?_
  refine ev_iadd eL_law_586 ?_
  refine ev_sld (i + 1) eL_law_587 rfl (by omega) (by omega) (by omega) ?_
  refine ev_aload_n eL_law_588 rfl ?_
  refine ev_iload_n eL_law_589 rfl ?_
  refine ev_iconst eL_law_590 ?_
  refine ev_iadd eL_law_591 ?_
  refine ev_sld (i + 2) eL_law_592 rfl (by omega) (by omega) (by omega) ?_
  refine ev_cV2 eL_law_593 ⟨lL_66, kX11_begin⟩ rfl rfl c1 ?_
  intro r τ hp
  obtain ⟨X, rfl, Pm, c2, k2⟩ := k1 r τ hp
  refine ev_aload_n eL_law_596 rfl ?_
  refine ev_aload_n eL_law_597 rfl ?_
  refine ev_iload_n eL_law_598 rfl ?_
  refine ev_iconst eL_law_599 ?_
  refine ev_iadd eL_law_600 ?_
  refine ev_sld (i + 1) eL_law_601 rfl (by omega) (by omega) (by omega) ?_
  refine ev_aload_n eL_law_602 rfl ?_
  refine ev_iload_n eL_law_603 rfl ?_
  refine ev_iconst eL_law_604 ?_
  refine ev_iadd eL_law_605 ?_
  refine ev_sld (i + 2) eL_law_606 rfl (by omega) (by omega) (by omega) ?_
  refine ev_cV2 eL_law_607 ⟨lL_69, kX12_begin⟩ rfl rfl c2 ?_
  intro r2 χ hq
  obtain ⟨rfl, hI2⟩ := k2 r2 χ hq
  exact ev_icmp_sm 1394 eL_law_610 rfl (ih χ hI2)
theorem lw_c13 {w : Scr} (hwn : w.1 ≤ 3584) (hw : ∀ j, j < w.1 → -2147483648 ≤ w.2 j ∧ w.2 j ≤ 2147483647) {i : Nat} (hi : i + 7 ≤ w.1) (ih : ∀ χ, Inv χ → EvG w 9 mL_law 1394 (llv i) [] χ LwP) {σ : St} (hI : Inv σ) : EvG w 9 mL_law 615 (llv i) [] σ LwP := by
  obtain ⟨Po, c1, k1⟩ := j_inflate hI
  refine ev_aload_n eL_law_615 rfl ?_
  refine ev_cV0 eL_law_616 ⟨lL_70, kX11_inflate⟩ rfl rfl c1 ?_
  intro r τ hp
  obtain ⟨X, rfl, Pm, c2, k2⟩ := k1 r τ hp
  refine ev_aload_n eL_law_619 rfl ?_
  refine ev_cV0 eL_law_620 ⟨lL_73, kX12_inflate⟩ rfl rfl c2 ?_
  intro r2 χ hq
  obtain ⟨rfl, hI2⟩ := k2 r2 χ hq
  exact ev_icmp_sm 1394 eL_law_623 rfl (ih χ hI2)
theorem lw_c14 {w : Scr} (hwn : w.1 ≤ 3584) (hw : ∀ j, j < w.1 → -2147483648 ≤ w.2 j ∧ w.2 j ≤ 2147483647) {i : Nat} (hi : i + 7 ≤ w.1) (ih : ∀ χ, Inv χ → EvG w 9 mL_law 1394 (llv i) [] χ LwP) {σ : St} (hI : Inv σ) : EvG w 9 mL_law 628 (llv i) [] σ LwP := by
  obtain ⟨Po, c1, k1⟩ := j_sort hI (hw (i + 1) (by omega)) (hw (i + 2) (by omega))
  refine ev_aload_n eL_law_628 rfl ?_
  refine ev_aload_n eL_law_629 rfl ?_
  refine ev_iload_n eL_law_630 rfl ?_
  refine ev_iconst eL_law_631 ?_
  refine ev_iadd eL_law_632 ?_
  refine ev_sld (i + 1) eL_law_633 rfl (by omega) (by omega) (by omega) ?_
  refine ev_aload_n eL_law_634 rfl ?_
  refine ev_iload_n eL_law_635 rfl ?_
  refine ev_iconst eL_law_636 ?_
  refine ev_iadd eL_law_637 ?_
  refine ev_sld (i + 2) eL_law_638 rfl (by omega) (by omega) (by omega) ?_
  refine ev_cV2 eL_law_639 ⟨lL_74, kX11_sort⟩ rfl rfl c1 ?_
  intro r τ hp
  obtain ⟨X, rfl, Pm, c2, k2⟩ := k1 r τ hp
  refine ev_aload_n eL_law_642 rfl ?_
  refine ev_aload_n eL_law_643 rfl ?_
  refine ev_iload_n eL_law_644 rfl ?_
  refine ev_iconst eL_law_645 ?_
  refine ev_iadd eL_law_646 ?_
  refine ev_sld (i + 1) eL_law_647 rfl (by omega) (by omega) (by omega) ?_
  refine ev_aload_n eL_law_648 rfl ?_
  refine ev_iload_n eL_law_649 rfl ?_
  refine ev_iconst eL_law_650 ?_
  refine ev_iadd eL_law_651 ?_
  refine ev_sld (i + 2) eL_law_652 rfl (by omega) (by omega) (by omega) ?_
  refine ev_cV2 eL_law_653 ⟨lL_77, kX12_sort⟩ rfl rfl c2 ?_
  intro r2 χ hq
  obtain ⟨rfl, hI2⟩ := k2 r2 χ hq
  exact ev_icmp_sm 1394 eL_law_656 rfl (ih χ hI2)
theorem lw_c15 {w : Scr} (hwn : w.1 ≤ 3584) (hw : ∀ j, j < w.1 → -2147483648 ≤ w.2 j ∧ w.2 j ≤ 2147483647) {i : Nat} (hi : i + 7 ≤ w.1) (ih : ∀ χ, Inv χ → EvG w 9 mL_law 1394 (llv i) [] χ LwP) {σ : St} (hI : Inv σ) : EvG w 9 mL_law 661 (llv i) [] σ LwP := by
  obtain ⟨Po, c1, k1⟩ := j_letter hI (hw (i + 1) (by omega))
  refine ev_aload_n eL_law_661 rfl ?_
  refine ev_aload_n eL_law_662 rfl ?_
  refine ev_iload_n eL_law_663 rfl ?_
  refine ev_iconst eL_law_664 ?_
  refine ev_iadd eL_law_665 ?_
  refine ev_sld (i + 1) eL_law_666 rfl (by omega) (by omega) (by omega) ?_
  refine ev_cV1 eL_law_667 ⟨lL_78, kX11_letter⟩ rfl rfl c1 ?_
  intro r τ hp
  obtain ⟨X, rfl, Pm, c2, k2⟩ := k1 r τ hp
  refine ev_aload_n eL_law_670 rfl ?_
  refine ev_aload_n eL_law_671 rfl ?_
  refine ev_iload_n eL_law_672 rfl ?_
  refine ev_iconst eL_law_673 ?_
  refine ev_iadd eL_law_674 ?_
  refine ev_sld (i + 1) eL_law_675 rfl (by omega) (by omega) (by omega) ?_
  refine ev_cV1 eL_law_676 ⟨lL_81, kX12_letter⟩ rfl rfl c2 ?_
  intro r2 χ hq
  obtain ⟨rfl, hI2⟩ := k2 r2 χ hq
  exact ev_icmp_sm 1394 eL_law_679 rfl (ih χ hI2)
theorem lw_c16 {w : Scr} (hwn : w.1 ≤ 3584) (hw : ∀ j, j < w.1 → -2147483648 ≤ w.2 j ∧ w.2 j ≤ 2147483647) {i : Nat} (hi : i + 7 ≤ w.1) (ih : ∀ χ, Inv χ → EvG w 9 mL_law 1394 (llv i) [] χ LwP) {σ : St} (hI : Inv σ) : EvG w 9 mL_law 684 (llv i) [] σ LwP := by
  obtain ⟨Po, c1, k1⟩ := j_grown hI (hw (i + 1) (by omega)) (hw (i + 2) (by omega))
  refine ev_aload_n eL_law_684 rfl ?_
  refine ev_aload_n eL_law_685 rfl ?_
  refine ev_iload_n eL_law_686 rfl ?_
  refine ev_iconst eL_law_687 ?_
  refine ev_iadd eL_law_688 ?_
  refine ev_sld (i + 1) eL_law_689 rfl (by omega) (by omega) (by omega) ?_
  refine ev_aload_n eL_law_690 rfl ?_
  refine ev_iload_n eL_law_691 rfl ?_
  refine ev_iconst eL_law_692 ?_
  refine ev_iadd eL_law_693 ?_
  refine ev_sld (i + 2) eL_law_694 rfl (by omega) (by omega) (by omega) ?_
  refine ev_cV2 eL_law_695 ⟨lL_82, kX11_grown⟩ rfl rfl c1 ?_
  intro r τ hp
  obtain ⟨X, rfl, Pm, c2, k2⟩ := k1 r τ hp
  refine ev_aload_n eL_law_698 rfl ?_
  refine ev_aload_n eL_law_699 rfl ?_
  refine ev_iload_n eL_law_700 rfl ?_
  refine ev_iconst eL_law_701 ?_
  refine ev_iadd eL_law_702 ?_
  refine ev_sld (i + 1) eL_law_703 rfl (by omega) (by omega) (by omega) ?_
  refine ev_aload_n eL_law_704 rfl ?_
  refine ev_iload_n eL_law_705 rfl ?_
  refine ev_iconst eL_law_706 ?_
  refine ev_iadd eL_law_707 ?_
  refine ev_sld (i + 2) eL_law_708 rfl (by omega) (by omega) (by omega) ?_
  refine ev_cV2 eL_law_709 ⟨lL_85, kX12_grown⟩ rfl rfl c2 ?_
  intro r2 χ hq
  obtain ⟨rfl, hI2⟩ := k2 r2 χ hq
  exact ev_icmp_sm 1394 eL_law_712 rfl (ih χ hI2)
theorem lw_c17 {w : Scr} (hwn : w.1 ≤ 3584) (hw : ∀ j, j < w.1 → -2147483648 ≤ w.2 j ∧ w.2 j ≤ 2147483647) {i : Nat} (hi : i + 7 ≤ w.1) (ih : ∀ χ, Inv χ → EvG w 9 mL_law 1394 (llv i) [] χ LwP) {σ : St} (hI : Inv σ) : EvG w 9 mL_law 717 (llv i) [] σ LwP := by
  obtain ⟨Po, c1, k1⟩ := j_origin hI (hw (i + 1) (by omega)) (hw (i + 2) (by omega)) (hw (i + 3) (by omega))
  refine ev_aload_n eL_law_717 rfl ?_
  refine ev_aload_n eL_law_718 rfl ?_
  refine ev_iload_n eL_law_719 rfl ?_
  refine ev_iconst eL_law_720 ?_
  refine ev_iadd eL_law_721 ?_
  refine ev_sld (i + 1) eL_law_722 rfl (by omega) (by omega) (by omega) ?_
  refine ev_aload_n eL_law_723 rfl ?_
  refine ev_iload_n eL_law_724 rfl ?_
  refine ev_iconst eL_law_725 ?_
  refine ev_iadd eL_law_726 ?_
  refine ev_sld (i + 2) eL_law_727 rfl (by omega) (by omega) (by omega) ?_
  refine ev_aload_n eL_law_728 rfl ?_
  refine ev_iload_n eL_law_729 rfl ?_
  refine ev_iconst eL_law_730 ?_
  refine ev_iadd eL_law_731 ?_
  refine ev_sld (i + 3) eL_law_732 rfl (by omega) (by omega) (by omega) ?_
  refine ev_cV3 eL_law_733 ⟨lL_86, kX11_origin⟩ rfl rfl c1 ?_
  intro r τ hp
  obtain ⟨X, rfl, Pm, c2, k2⟩ := k1 r τ hp
  refine ev_aload_n eL_law_736 rfl ?_
  refine ev_aload_n eL_law_737 rfl ?_
  refine ev_iload_n eL_law_738 rfl ?_
  refine ev_iconst eL_law_739 ?_
  refine ev_iadd eL_law_740 ?_
  refine ev_sld (i + 1) eL_law_741 rfl (by omega) (by omega) (by omega) ?_
  refine ev_aload_n eL_law_742 rfl ?_
  refine ev_iload_n eL_law_743 rfl ?_
  refine ev_iconst eL_law_744 ?_
  refine ev_iadd eL_law_745 ?_
  refine ev_sld (i + 2) eL_law_746 rfl (by omega) (by omega) (by omega) ?_
  refine ev_aload_n eL_law_747 rfl ?_
  refine ev_iload_n eL_law_748 rfl ?_
  refine ev_iconst eL_law_749 ?_
  refine ev_iadd eL_law_750 ?_
  refine ev_sld (i + 3) eL_law_751 rfl (by omega) (by omega) (by omega) ?_
  refine ev_cV3 eL_law_752 ⟨lL_89, kX12_origin⟩ rfl rfl c2 ?_
  intro r2 χ hq
  obtain ⟨rfl, hI2⟩ := k2 r2 χ hq
  exact ev_icmp_sm 1394 eL_law_755 rfl (ih χ hI2)
theorem lw_c18 {w : Scr} (hwn : w.1 ≤ 3584) (hw : ∀ j, j < w.1 → -2147483648 ≤ w.2 j ∧ w.2 j ≤ 2147483647) {i : Nat} (hi : i + 7 ≤ w.1) (ih : ∀ χ, Inv χ → EvG w 9 mL_law 1394 (llv i) [] χ LwP) {σ : St} (hI : Inv σ) : EvG w 9 mL_law 760 (llv i) [] σ LwP := by
  obtain ⟨Po, c1, k1⟩ := j_place hI (hw (i + 1) (by omega)) (hw (i + 2) (by omega)) (hw (i + 3) (by omega))
  refine ev_aload_n eL_law_760 rfl ?_
  refine ev_aload_n eL_law_761 rfl ?_
  refine ev_iload_n eL_law_762 rfl ?_
  refine ev_iconst eL_law_763 ?_
  refine ev_iadd eL_law_764 ?_
  refine ev_sld (i + 1) eL_law_765 rfl (by omega) (by omega) (by omega) ?_
  refine ev_aload_n eL_law_766 rfl ?_
  refine ev_iload_n eL_law_767 rfl ?_
  refine ev_iconst eL_law_768 ?_
  refine ev_iadd eL_law_769 ?_
  refine ev_sld (i + 2) eL_law_770 rfl (by omega) (by omega) (by omega) ?_
  refine ev_aload_n eL_law_771 rfl ?_
  refine ev_iload_n eL_law_772 rfl ?_
  refine ev_iconst eL_law_773 ?_
  refine ev_iadd eL_law_774 ?_
  refine ev_sld (i + 3) eL_law_775 rfl (by omega) (by omega) (by omega) ?_
  refine ev_cV3 eL_law_776 ⟨lL_90, kX11_place⟩ rfl rfl c1 ?_
  intro r τ hp
  obtain ⟨X, rfl, Pm, c2, k2⟩ := k1 r τ hp
  refine ev_aload_n eL_law_779 rfl ?_
  refine ev_aload_n eL_law_780 rfl ?_
  refine ev_iload_n eL_law_781 rfl ?_
  refine ev_iconst eL_law_782 ?_
  refine ev_iadd eL_law_783 ?_
  refine ev_sld (i + 1) eL_law_784 rfl (by omega) (by omega) (by omega) ?_
  refine ev_aload_n eL_law_785 rfl ?_
  refine ev_iload_n eL_law_786 rfl ?_
  refine ev_iconst eL_law_787 ?_
  refine ev_iadd eL_law_788 ?_
  refine ev_sld (i + 2) eL_law_789 rfl (by omega) (by omega) (by omega) ?_
  refine ev_aload_n eL_law_790 rfl ?_
  refine ev_iload_n eL_law_791 rfl ?_
  refine ev_iconst eL_law_792 ?_
  refine ev_iadd eL_law_793 ?_
  refine ev_sld (i + 3) eL_law_794 rfl (by omega) (by omega) (by omega) ?_
  refine ev_cV3 eL_law_795 ⟨lL_94, kX12_place⟩ rfl rfl c2 ?_
  intro r2 χ hq
  obtain ⟨rfl, hI2⟩ := k2 r2 χ hq
  exact ev_lif_sm 1394 eL_law_798 eL_law_799 rfl (ih χ hI2)
theorem lw_c19 {w : Scr} (hwn : w.1 ≤ 3584) (hw : ∀ j, j < w.1 → -2147483648 ≤ w.2 j ∧ w.2 j ≤ 2147483647) {i : Nat} (hi : i + 7 ≤ w.1) (ih : ∀ χ, Inv χ → EvG w 9 mL_law 1394 (llv i) [] χ LwP) {σ : St} (hI : Inv σ) : EvG w 9 mL_law 804 (llv i) [] σ LwP := by
  obtain ⟨Po, c1, k1⟩ := j_numbers hI (hw (i + 1) (by omega)) (hw (i + 2) (by omega))
  refine ev_aload_n eL_law_804 rfl ?_
  refine ev_aload_n eL_law_805 rfl ?_
  refine ev_iload_n eL_law_806 rfl ?_
  refine ev_iconst eL_law_807 ?_
  refine ev_iadd eL_law_808 ?_
  refine ev_sld (i + 1) eL_law_809 rfl (by omega) (by omega) (by omega) ?_
  refine ev_aload_n eL_law_810 rfl ?_
  refine ev_iload_n eL_law_811 rfl ?_
  refine ev_iconst eL_law_812 ?_
  refine ev_iadd eL_law_813 ?_
  refine ev_sld (i + 2) eL_law_814 rfl (by omega) (by omega) (by omega) ?_
  refine ev_cV2 eL_law_815 ⟨lL_95, kX11_numbers⟩ rfl rfl c1 ?_
  intro r τ hp
  obtain ⟨X, rfl, Pm, c2, k2⟩ := k1 r τ hp
  refine ev_aload_n eL_law_818 rfl ?_
  refine ev_aload_n eL_law_819 rfl ?_
  refine ev_iload_n eL_law_820 rfl ?_
  refine ev_iconst eL_law_821 ?_
  refine ev_iadd eL_law_822 ?_
  refine ev_sld (i + 1) eL_law_823 rfl (by omega) (by omega) (by omega) ?_
  refine ev_aload_n eL_law_824 rfl ?_
  refine ev_iload_n eL_law_825 rfl ?_
  refine ev_iconst eL_law_826 ?_
  refine ev_iadd eL_law_827 ?_
  refine ev_sld (i + 2) eL_law_828 rfl (by omega) (by omega) (by omega) ?_
  refine ev_cV2 eL_law_829 ⟨lL_99, kX12_numbers⟩ rfl rfl c2 ?_
  intro r2 χ hq
  obtain ⟨rfl, hI2⟩ := k2 r2 χ hq
  exact ev_lif_sm 1394 eL_law_832 eL_law_833 rfl (ih χ hI2)
theorem lw_c20 {w : Scr} (hwn : w.1 ≤ 3584) (hw : ∀ j, j < w.1 → -2147483648 ≤ w.2 j ∧ w.2 j ≤ 2147483647) {i : Nat} (hi : i + 7 ≤ w.1) (ih : ∀ χ, Inv χ → EvG w 9 mL_law 1394 (llv i) [] χ LwP) {σ : St} (hI : Inv σ) : EvG w 9 mL_law 838 (llv i) [] σ LwP := by
  obtain ⟨Po, c1, k1⟩ := j_share hI (hw (i + 1) (by omega)) (hw (i + 2) (by omega)) (hw (i + 3) (by omega))
  refine ev_aload_n eL_law_838 rfl ?_
  refine ev_aload_n eL_law_839 rfl ?_
  refine ev_iload_n eL_law_840 rfl ?_
  refine ev_iconst eL_law_841 ?_
  refine ev_iadd eL_law_842 ?_
  refine ev_sld (i + 1) eL_law_843 rfl (by omega) (by omega) (by omega) ?_
  refine ev_aload_n eL_law_844 rfl ?_
  refine ev_iload_n eL_law_845 rfl ?_
  refine ev_iconst eL_law_846 ?_
  refine ev_iadd eL_law_847 ?_
  refine ev_sld (i + 2) eL_law_848 rfl (by omega) (by omega) (by omega) ?_
  refine ev_aload_n eL_law_849 rfl ?_
  refine ev_iload_n eL_law_850 rfl ?_
  refine ev_iconst eL_law_851 ?_
  refine ev_iadd eL_law_852 ?_
  refine ev_sld (i + 3) eL_law_853 rfl (by omega) (by omega) (by omega) ?_
  refine ev_cV3 eL_law_854 ⟨lL_100, kX11_share⟩ rfl rfl c1 ?_
  intro r τ hp
  obtain ⟨X, rfl, Pm, c2, k2⟩ := k1 r τ hp
  refine ev_aload_n eL_law_857 rfl ?_
  refine ev_aload_n eL_law_858 rfl ?_
  refine ev_iload_n eL_law_859 rfl ?_
  refine ev_iconst eL_law_860 ?_
  refine ev_iadd eL_law_861 ?_
  refine ev_sld (i + 1) eL_law_862 rfl (by omega) (by omega) (by omega) ?_
  refine ev_aload_n eL_law_863 rfl ?_
  refine ev_iload_n eL_law_864 rfl ?_
  refine ev_iconst eL_law_865 ?_
  refine ev_iadd eL_law_866 ?_
  refine ev_sld (i + 2) eL_law_867 rfl (by omega) (by omega) (by omega) ?_
  refine ev_aload_n eL_law_868 rfl ?_
  refine ev_iload_n eL_law_869 rfl ?_
  refine ev_iconst eL_law_870 ?_
  refine ev_iadd eL_law_871 ?_
  refine ev_sld (i + 3) eL_law_872 rfl (by omega) (by omega) (by omega) ?_
  refine ev_cV3 eL_law_873 ⟨lL_103, kX12_share⟩ rfl rfl c2 ?_
  intro r2 χ hq
  obtain ⟨rfl, hI2⟩ := k2 r2 χ hq
  exact ev_lif_sm 1394 eL_law_876 eL_law_877 rfl (ih χ hI2)
theorem lw_c21 {w : Scr} (hwn : w.1 ≤ 3584) (hw : ∀ j, j < w.1 → -2147483648 ≤ w.2 j ∧ w.2 j ≤ 2147483647) {i : Nat} (hi : i + 7 ≤ w.1) (ih : ∀ χ, Inv χ → EvG w 9 mL_law 1394 (llv i) [] χ LwP) {σ : St} (hI : Inv σ) : EvG w 9 mL_law 882 (llv i) [] σ LwP := by
  obtain ⟨Po, c1, k1⟩ := j_all hI (hw (i + 1) (by omega)) (hw (i + 2) (by omega))
  refine ev_aload_n eL_law_882 rfl ?_
  refine ev_aload_n eL_law_883 rfl ?_
  refine ev_iload_n eL_law_884 rfl ?_
  refine ev_iconst eL_law_885 ?_
  refine ev_iadd eL_law_886 ?_
  refine ev_sld (i + 1) eL_law_887 rfl (by omega) (by omega) (by omega) ?_
  refine ev_aload_n eL_law_888 rfl ?_
  refine ev_iload_n eL_law_889 rfl ?_
  refine ev_iconst eL_law_890 ?_
  refine ev_iadd eL_law_891 ?_
  refine ev_sld (i + 2) eL_law_892 rfl (by omega) (by omega) (by omega) ?_
  refine ev_cV2 eL_law_893 ⟨lL_104, kX11_all⟩ rfl rfl c1 ?_
  intro r τ hp
  obtain ⟨X, rfl, Pm, c2, k2⟩ := k1 r τ hp
  refine ev_aload_n eL_law_896 rfl ?_
  refine ev_aload_n eL_law_897 rfl ?_
  refine ev_iload_n eL_law_898 rfl ?_
  refine ev_iconst eL_law_899 ?_
  refine ev_iadd eL_law_900 ?_
  refine ev_sld (i + 1) eL_law_901 rfl (by omega) (by omega) (by omega) ?_
  refine ev_aload_n eL_law_902 rfl ?_
  refine ev_iload_n eL_law_903 rfl ?_
  refine ev_iconst eL_law_904 ?_
  refine ev_iadd eL_law_905 ?_
  refine ev_sld (i + 2) eL_law_906 rfl (by omega) (by omega) (by omega) ?_
  refine ev_cV2 eL_law_907 ⟨lL_107, kX12_all⟩ rfl rfl c2 ?_
  intro r2 χ hq
  obtain ⟨rfl, hI2⟩ := k2 r2 χ hq
  exact ev_lif_sm 1394 eL_law_910 eL_law_911 rfl (ih χ hI2)
theorem lw_c22 {w : Scr} (hwn : w.1 ≤ 3584) (hw : ∀ j, j < w.1 → -2147483648 ≤ w.2 j ∧ w.2 j ≤ 2147483647) {i : Nat} (hi : i + 7 ≤ w.1) (ih : ∀ χ, Inv χ → EvG w 9 mL_law 1394 (llv i) [] χ LwP) {σ : St} (hI : Inv σ) : EvG w 9 mL_law 916 (llv i) [] σ LwP := by
  obtain ⟨Po, c1, k1⟩ := j_whole hI (hw (i + 1) (by omega))
  refine ev_aload_n eL_law_916 rfl ?_
  refine ev_aload_n eL_law_917 rfl ?_
  refine ev_iload_n eL_law_918 rfl ?_
  refine ev_iconst eL_law_919 ?_
  refine ev_iadd eL_law_920 ?_
  refine ev_sld (i + 1) eL_law_921 rfl (by omega) (by omega) (by omega) ?_
  refine ev_cV1 eL_law_922 ⟨lL_108, kX11_whole⟩ rfl rfl c1 ?_
  intro r τ hp
  obtain ⟨X, rfl, Pm, c2, k2⟩ := k1 r τ hp
  refine ev_aload_n eL_law_925 rfl ?_
  refine ev_aload_n eL_law_926 rfl ?_
  refine ev_iload_n eL_law_927 rfl ?_
  refine ev_iconst eL_law_928 ?_
  refine ev_iadd eL_law_929 ?_
  refine ev_sld (i + 1) eL_law_930 rfl (by omega) (by omega) (by omega) ?_
  refine ev_cV1 eL_law_931 ⟨lL_111, kX12_whole⟩ rfl rfl c2 ?_
  intro r2 χ hq
  obtain ⟨rfl, hI2⟩ := k2 r2 χ hq
  exact ev_icmp_sm 1394 eL_law_934 rfl (ih χ hI2)
theorem lw_c23 {w : Scr} (hwn : w.1 ≤ 3584) (hw : ∀ j, j < w.1 → -2147483648 ≤ w.2 j ∧ w.2 j ≤ 2147483647) {i : Nat} (hi : i + 7 ≤ w.1) (ih : ∀ χ, Inv χ → EvG w 9 mL_law 1394 (llv i) [] χ LwP) {σ : St} (hI : Inv σ) : EvG w 9 mL_law 939 (llv i) [] σ LwP := by
  obtain ⟨Po, c1, k1⟩ := j_back hI (hw (i + 1) (by omega)) (hw (i + 2) (by omega)) (hw (i + 3) (by omega))
  refine ev_aload_n eL_law_939 rfl ?_
  refine ev_aload_n eL_law_940 rfl ?_
  refine ev_iload_n eL_law_941 rfl ?_
  refine ev_iconst eL_law_942 ?_
  refine ev_iadd eL_law_943 ?_
  refine ev_sld (i + 1) eL_law_944 rfl (by omega) (by omega) (by omega) ?_
  refine ev_aload_n eL_law_945 rfl ?_
  refine ev_iload_n eL_law_946 rfl ?_
  refine ev_iconst eL_law_947 ?_
  refine ev_iadd eL_law_948 ?_
  refine ev_sld (i + 2) eL_law_949 rfl (by omega) (by omega) (by omega) ?_
  refine ev_aload_n eL_law_950 rfl ?_
  refine ev_iload_n eL_law_951 rfl ?_
  refine ev_iconst eL_law_952 ?_
  refine ev_iadd eL_law_953 ?_
  refine ev_sld (i + 3) eL_law_954 rfl (by omega) (by omega) (by omega) ?_
  refine ev_cV3 eL_law_955 ⟨lL_112, kX11_back⟩ rfl rfl c1 ?_
  intro r τ hp
  obtain ⟨X, rfl, Pm, c2, k2⟩ := k1 r τ hp
  refine ev_aload_n eL_law_958 rfl ?_
  refine ev_aload_n eL_law_959 rfl ?_
  refine ev_iload_n eL_law_960 rfl ?_
  refine ev_iconst eL_law_961 ?_
  refine ev_iadd eL_law_962 ?_
  refine ev_sld (i + 1) eL_law_963 rfl (by omega) (by omega) (by omega) ?_
  refine ev_aload_n eL_law_964 rfl ?_
  refine ev_iload_n eL_law_965 rfl ?_
  refine ev_iconst eL_law_966 ?_
  refine ev_iadd eL_law_967 ?_
  refine ev_sld (i + 2) eL_law_968 rfl (by omega) (by omega) (by omega) ?_
  refine ev_aload_n eL_law_969 rfl ?_
  refine ev_iload_n eL_law_970 rfl ?_
  refine ev_iconst eL_law_971 ?_
  refine ev_iadd eL_law_972 ?_
  refine ev_sld (i + 3) eL_law_973 rfl (by omega) (by omega) (by omega) ?_
  refine ev_cV3 eL_law_974 ⟨lL_115, kX12_back⟩ rfl rfl c2 ?_
  intro r2 χ hq
  obtain ⟨rfl, hI2⟩ := k2 r2 χ hq
  exact ev_icmp_sm 1394 eL_law_977 rfl (ih χ hI2)
theorem lw_c24 {w : Scr} (hwn : w.1 ≤ 3584) (hw : ∀ j, j < w.1 → -2147483648 ≤ w.2 j ∧ w.2 j ≤ 2147483647) {i : Nat} (hi : i + 7 ≤ w.1) (ih : ∀ χ, Inv χ → EvG w 9 mL_law 1394 (llv i) [] χ LwP) {σ : St} (hI : Inv σ) : EvG w 9 mL_law 982 (llv i) [] σ LwP := by
  obtain ⟨Po, c1, k1⟩ := j_who hI (hw (i + 1) (by omega)) (hw (i + 2) (by omega)) (hw (i + 3) (by omega)) (hw (i + 4) (by omega)) (hw (i + 5) (by omega)) (hw (i + 6) (by omega))
  refine ev_aload_n eL_law_982 rfl ?_
  refine ev_aload_n eL_law_983 rfl ?_
  refine ev_iload_n eL_law_984 rfl ?_
  refine ev_iconst eL_law_985 ?_
  refine ev_iadd eL_law_986 ?_
  refine ev_sld (i + 1) eL_law_987 rfl (by omega) (by omega) (by omega) ?_
  refine ev_aload_n eL_law_988 rfl ?_
  refine ev_iload_n eL_law_989 rfl ?_
  refine ev_iconst eL_law_990 ?_
  refine ev_iadd eL_law_991 ?_
  refine ev_sld (i + 2) eL_law_992 rfl (by omega) (by omega) (by omega) ?_
  refine ev_aload_n eL_law_993 rfl ?_
  refine ev_iload_n eL_law_994 rfl ?_
  refine ev_iconst eL_law_995 ?_
  refine ev_iadd eL_law_996 ?_
  refine ev_sld (i + 3) eL_law_997 rfl (by omega) (by omega) (by omega) ?_
  refine ev_aload_n eL_law_998 rfl ?_
  refine ev_iload_n eL_law_999 rfl ?_
  refine ev_iconst eL_law_1000 ?_
  refine ev_iadd eL_law_1001 ?_
  refine ev_sld (i + 4) eL_law_1002 rfl (by omega) (by omega) (by omega) ?_
  refine ev_aload_n eL_law_1003 rfl ?_
  refine ev_iload_n eL_law_1004 rfl ?_
  refine ev_iconst eL_law_1005 ?_
  refine ev_iadd eL_law_1006 ?_
  refine ev_sld (i + 5) eL_law_1007 rfl (by omega) (by omega) (by omega) ?_
  refine ev_aload_n eL_law_1008 rfl ?_
  refine ev_iload_n eL_law_1009 rfl ?_
  refine ev_bipush eL_law_1010 rfl ?_
  refine ev_iadd eL_law_1012 ?_
  refine ev_sld (i + 6) eL_law_1013 rfl (by omega) (by omega) (by omega) ?_
  refine ev_cV6 eL_law_1014 ⟨lL_116, kX11_who⟩ rfl rfl c1 ?_
  intro r τ hp
  obtain ⟨X, rfl, Pm, c2, k2⟩ := k1 r τ hp
  refine ev_aload_n eL_law_1017 rfl ?_
  refine ev_aload_n eL_law_1018 rfl ?_
  refine ev_iload_n eL_law_1019 rfl ?_
  refine ev_iconst eL_law_1020 ?_
  refine ev_iadd eL_law_1021 ?_
  refine ev_sld (i + 1) eL_law_1022 rfl (by omega) (by omega) (by omega) ?_
  refine ev_aload_n eL_law_1023 rfl ?_
  refine ev_iload_n eL_law_1024 rfl ?_
  refine ev_iconst eL_law_1025 ?_
  refine ev_iadd eL_law_1026 ?_
  refine ev_sld (i + 2) eL_law_1027 rfl (by omega) (by omega) (by omega) ?_
  refine ev_aload_n eL_law_1028 rfl ?_
  refine ev_iload_n eL_law_1029 rfl ?_
  refine ev_iconst eL_law_1030 ?_
  refine ev_iadd eL_law_1031 ?_
  refine ev_sld (i + 3) eL_law_1032 rfl (by omega) (by omega) (by omega) ?_
  refine ev_aload_n eL_law_1033 rfl ?_
  refine ev_iload_n eL_law_1034 rfl ?_
  refine ev_iconst eL_law_1035 ?_
  refine ev_iadd eL_law_1036 ?_
  refine ev_sld (i + 4) eL_law_1037 rfl (by omega) (by omega) (by omega) ?_
  refine ev_aload_n eL_law_1038 rfl ?_
  refine ev_iload_n eL_law_1039 rfl ?_
  refine ev_iconst eL_law_1040 ?_
  refine ev_iadd eL_law_1041 ?_
  refine ev_sld (i + 5) eL_law_1042 rfl (by omega) (by omega) (by omega) ?_
  refine ev_aload_n eL_law_1043 rfl ?_
  refine ev_iload_n eL_law_1044 rfl ?_
  refine ev_bipush eL_law_1045 rfl ?_
  refine ev_iadd eL_law_1047 ?_
  refine ev_sld (i + 6) eL_law_1048 rfl (by omega) (by omega) (by omega) ?_
  refine ev_cV6 eL_law_1049 ⟨lL_120, kX12_who⟩ rfl rfl c2 ?_
  intro r2 χ hq
  obtain ⟨rfl, hI2⟩ := k2 r2 χ hq
  exact ev_icmp_sm 1394 eL_law_1052 rfl (ih χ hI2)
theorem lw_c25 {w : Scr} (hwn : w.1 ≤ 3584) (hw : ∀ j, j < w.1 → -2147483648 ≤ w.2 j ∧ w.2 j ≤ 2147483647) {i : Nat} (hi : i + 7 ≤ w.1) (ih : ∀ χ, Inv χ → EvG w 9 mL_law 1394 (llv i) [] χ LwP) {σ : St} (hI : Inv σ) : EvG w 9 mL_law 1057 (llv i) [] σ LwP := by
  obtain ⟨Po, c1, k1⟩ := j_quiet hI
  refine ev_aload_n eL_law_1057 rfl ?_
  refine ev_cV0 eL_law_1058 ⟨lL_121, kX11_quiet⟩ rfl rfl c1 ?_
  intro r τ hp
  obtain ⟨X, rfl, Pm, c2, k2⟩ := k1 r τ hp
  refine ev_aload_n eL_law_1061 rfl ?_
  refine ev_cV0 eL_law_1062 ⟨lL_124, kX12_quiet⟩ rfl rfl c2 ?_
  intro r2 χ hq
  obtain ⟨rfl, hI2⟩ := k2 r2 χ hq
  exact ev_icmp_sm 1394 eL_law_1065 rfl (ih χ hI2)
theorem lw_c26 {w : Scr} (hwn : w.1 ≤ 3584) (hw : ∀ j, j < w.1 → -2147483648 ≤ w.2 j ∧ w.2 j ≤ 2147483647) {i : Nat} (hi : i + 7 ≤ w.1) (ih : ∀ χ, Inv χ → EvG w 9 mL_law 1394 (llv i) [] χ LwP) {σ : St} (hI : Inv σ) : EvG w 9 mL_law 1070 (llv i) [] σ LwP := by
  obtain ⟨Po, c1, k1⟩ := j_sets hI (hw (i + 1) (by omega)) (hw (i + 2) (by omega))
  refine ev_aload_n eL_law_1070 rfl ?_
  refine ev_aload_n eL_law_1071 rfl ?_
  refine ev_iload_n eL_law_1072 rfl ?_
  refine ev_iconst eL_law_1073 ?_
  refine ev_iadd eL_law_1074 ?_
  refine ev_sld (i + 1) eL_law_1075 rfl (by omega) (by omega) (by omega) ?_
  refine ev_aload_n eL_law_1076 rfl ?_
  refine ev_iload_n eL_law_1077 rfl ?_
  refine ev_iconst eL_law_1078 ?_
  refine ev_iadd eL_law_1079 ?_
  refine ev_sld (i + 2) eL_law_1080 rfl (by omega) (by omega) (by omega) ?_
  refine ev_cV2 eL_law_1081 ⟨lL_125, kX11_sets⟩ rfl rfl c1 ?_
  intro r τ hp
  obtain ⟨X, rfl, Pm, c2, k2⟩ := k1 r τ hp
  refine ev_aload_n eL_law_1084 rfl ?_
  refine ev_aload_n eL_law_1085 rfl ?_
  refine ev_iload_n eL_law_1086 rfl ?_
  refine ev_iconst eL_law_1087 ?_
  refine ev_iadd eL_law_1088 ?_
  refine ev_sld (i + 1) eL_law_1089 rfl (by omega) (by omega) (by omega) ?_
  refine ev_aload_n eL_law_1090 rfl ?_
  refine ev_iload_n eL_law_1091 rfl ?_
  refine ev_iconst eL_law_1092 ?_
  refine ev_iadd eL_law_1093 ?_
  refine ev_sld (i + 2) eL_law_1094 rfl (by omega) (by omega) (by omega) ?_
  refine ev_cV2 eL_law_1095 ⟨lL_128, kX12_sets⟩ rfl rfl c2 ?_
  intro r2 χ hq
  obtain ⟨rfl, hI2⟩ := k2 r2 χ hq
  exact ev_icmp_sm 1394 eL_law_1098 rfl (ih χ hI2)
theorem lw_c27 {w : Scr} (hwn : w.1 ≤ 3584) (hw : ∀ j, j < w.1 → -2147483648 ≤ w.2 j ∧ w.2 j ≤ 2147483647) {i : Nat} (hi : i + 7 ≤ w.1) (ih : ∀ χ, Inv χ → EvG w 9 mL_law 1394 (llv i) [] χ LwP) {σ : St} (hI : Inv σ) : EvG w 9 mL_law 1103 (llv i) [] σ LwP := by
  obtain ⟨Po, c1, k1⟩ := j_lost hI (hw (i + 1) (by omega)) (hw (i + 2) (by omega)) (hw (i + 3) (by omega)) (hw (i + 4) (by omega))
  refine ev_aload_n eL_law_1103 rfl ?_
  refine ev_aload_n eL_law_1104 rfl ?_
  refine ev_iload_n eL_law_1105 rfl ?_
  refine ev_iconst eL_law_1106 ?_
  refine ev_iadd eL_law_1107 ?_
  refine ev_sld (i + 1) eL_law_1108 rfl (by omega) (by omega) (by omega) ?_
  refine ev_aload_n eL_law_1109 rfl ?_
  refine ev_iload_n eL_law_1110 rfl ?_
  refine ev_iconst eL_law_1111 ?_
  refine ev_iadd eL_law_1112 ?_
  refine ev_sld (i + 2) eL_law_1113 rfl (by omega) (by omega) (by omega) ?_
  refine ev_aload_n eL_law_1114 rfl ?_
  refine ev_iload_n eL_law_1115 rfl ?_
  refine ev_iconst eL_law_1116 ?_
  refine ev_iadd eL_law_1117 ?_
  refine ev_sld (i + 3) eL_law_1118 rfl (by omega) (by omega) (by omega) ?_
  refine ev_aload_n eL_law_1119 rfl ?_
  refine ev_iload_n eL_law_1120 rfl ?_
  refine ev_iconst eL_law_1121 ?_
  refine ev_iadd eL_law_1122 ?_
  refine ev_sld (i + 4) eL_law_1123 rfl (by omega) (by omega) (by omega) ?_
  refine ev_cV4 eL_law_1124 ⟨lL_129, kX11_lost⟩ rfl rfl c1 ?_
  intro r τ hp
  obtain ⟨X, rfl, Pm, c2, k2⟩ := k1 r τ hp
  refine ev_aload_n eL_law_1127 rfl ?_
  refine ev_aload_n eL_law_1128 rfl ?_
  refine ev_iload_n eL_law_1129 rfl ?_
  refine ev_iconst eL_law_1130 ?_
  refine ev_iadd eL_law_1131 ?_
  refine ev_sld (i + 1) eL_law_1132 rfl (by omega) (by omega) (by omega) ?_
  refine ev_aload_n eL_law_1133 rfl ?_
  refine ev_iload_n eL_law_1134 rfl ?_
  refine ev_iconst eL_law_1135 ?_
  refine ev_iadd eL_law_1136 ?_
  refine ev_sld (i + 2) eL_law_1137 rfl (by omega) (by omega) (by omega) ?_
  refine ev_aload_n eL_law_1138 rfl ?_
  refine ev_iload_n eL_law_1139 rfl ?_
  refine ev_iconst eL_law_1140 ?_
  refine ev_iadd eL_law_1141 ?_
  refine ev_sld (i + 3) eL_law_1142 rfl (by omega) (by omega) (by omega) ?_
  refine ev_aload_n eL_law_1143 rfl ?_
  refine ev_iload_n eL_law_1144 rfl ?_
  refine ev_iconst eL_law_1145 ?_
  refine ev_iadd eL_law_1146 ?_
  refine ev_sld (i + 4) eL_law_1147 rfl (by omega) (by omega) (by omega) ?_
  refine ev_cV4 eL_law_1148 ⟨lL_133, kX12_lost⟩ rfl rfl c2 ?_
  intro r2 χ hq
  obtain ⟨rfl, hI2⟩ := k2 r2 χ hq
  exact ev_lif_sm 1394 eL_law_1151 eL_law_1152 rfl (ih χ hI2)
theorem lw_c28 {w : Scr} (hwn : w.1 ≤ 3584) (hw : ∀ j, j < w.1 → -2147483648 ≤ w.2 j ∧ w.2 j ≤ 2147483647) {i : Nat} (hi : i + 7 ≤ w.1) (ih : ∀ χ, Inv χ → EvG w 9 mL_law 1394 (llv i) [] χ LwP) {σ : St} (hI : Inv σ) : EvG w 9 mL_law 1157 (llv i) [] σ LwP := by
  obtain ⟨Po, c1, k1⟩ := j_drawn hI (hw (i + 1) (by omega)) (hw (i + 2) (by omega)) (hw (i + 3) (by omega))
  refine ev_aload_n eL_law_1157 rfl ?_
  refine ev_aload_n eL_law_1158 rfl ?_
  refine ev_iload_n eL_law_1159 rfl ?_
  refine ev_iconst eL_law_1160 ?_
  refine ev_iadd eL_law_1161 ?_
  refine ev_sld (i + 1) eL_law_1162 rfl (by omega) (by omega) (by omega) ?_
  refine ev_aload_n eL_law_1163 rfl ?_
  refine ev_iload_n eL_law_1164 rfl ?_
  refine ev_iconst eL_law_1165 ?_
  refine ev_iadd eL_law_1166 ?_
  refine ev_sld (i + 2) eL_law_1167 rfl (by omega) (by omega) (by omega) ?_
  refine ev_aload_n eL_law_1168 rfl ?_
  refine ev_iload_n eL_law_1169 rfl ?_
  refine ev_iconst eL_law_1170 ?_
  refine ev_iadd eL_law_1171 ?_
  refine ev_sld (i + 3) eL_law_1172 rfl (by omega) (by omega) (by omega) ?_
  refine ev_cV3 eL_law_1173 ⟨lL_134, kX11_drawn⟩ rfl rfl c1 ?_
  intro r τ hp
  obtain ⟨X, rfl, Pm, c2, k2⟩ := k1 r τ hp
  refine ev_aload_n eL_law_1176 rfl ?_
  refine ev_aload_n eL_law_1177 rfl ?_
  refine ev_iload_n eL_law_1178 rfl ?_
  refine ev_iconst eL_law_1179 ?_
  refine ev_iadd eL_law_1180 ?_
  refine ev_sld (i + 1) eL_law_1181 rfl (by omega) (by omega) (by omega) ?_
  refine ev_aload_n eL_law_1182 rfl ?_
  refine ev_iload_n eL_law_1183 rfl ?_
  refine ev_iconst eL_law_1184 ?_
  refine ev_iadd eL_law_1185 ?_
  refine ev_sld (i + 2) eL_law_1186 rfl (by omega) (by omega) (by omega) ?_
  refine ev_aload_n eL_law_1187 rfl ?_
  refine ev_iload_n eL_law_1188 rfl ?_
  refine ev_iconst eL_law_1189 ?_
  refine ev_iadd eL_law_1190 ?_
  refine ev_sld (i + 3) eL_law_1191 rfl (by omega) (by omega) (by omega) ?_
  refine ev_cV3 eL_law_1192 ⟨lL_137, kX12_drawn⟩ rfl rfl c2 ?_
  intro r2 χ hq
  obtain ⟨rfl, hI2⟩ := k2 r2 χ hq
  exact ev_icmp_sm 1394 eL_law_1195 rfl (ih χ hI2)
theorem lw_c29 {w : Scr} (hwn : w.1 ≤ 3584) (hw : ∀ j, j < w.1 → -2147483648 ≤ w.2 j ∧ w.2 j ≤ 2147483647) {i : Nat} (hi : i + 7 ≤ w.1) (ih : ∀ χ, Inv χ → EvG w 9 mL_law 1394 (llv i) [] χ LwP) {σ : St} (hI : Inv σ) : EvG w 9 mL_law 1200 (llv i) [] σ LwP := by
  obtain ⟨Po, c1, k1⟩ := j_image hI (hw (i + 1) (by omega))
  refine ev_aload_n eL_law_1200 rfl ?_
  refine ev_aload_n eL_law_1201 rfl ?_
  refine ev_iload_n eL_law_1202 rfl ?_
  refine ev_iconst eL_law_1203 ?_
  refine ev_iadd eL_law_1204 ?_
  refine ev_sld (i + 1) eL_law_1205 rfl (by omega) (by omega) (by omega) ?_
  refine ev_cV1 eL_law_1206 ⟨lL_138, kX11_image⟩ rfl rfl c1 ?_
  intro r τ hp
  obtain ⟨X, rfl, Pm, c2, k2⟩ := k1 r τ hp
  refine ev_aload_n eL_law_1209 rfl ?_
  refine ev_aload_n eL_law_1210 rfl ?_
  refine ev_iload_n eL_law_1211 rfl ?_
  refine ev_iconst eL_law_1212 ?_
  refine ev_iadd eL_law_1213 ?_
  refine ev_sld (i + 1) eL_law_1214 rfl (by omega) (by omega) (by omega) ?_
  refine ev_cV1 eL_law_1215 ⟨lL_141, kX12_image⟩ rfl rfl c2 ?_
  intro r2 χ hq
  obtain ⟨rfl, hI2⟩ := k2 r2 χ hq
  exact ev_icmp_sm 1394 eL_law_1218 rfl (ih χ hI2)
theorem lw_c30 {w : Scr} (hwn : w.1 ≤ 3584) (hw : ∀ j, j < w.1 → -2147483648 ≤ w.2 j ∧ w.2 j ≤ 2147483647) {i : Nat} (hi : i + 7 ≤ w.1) (ih : ∀ χ, Inv χ → EvG w 9 mL_law 1394 (llv i) [] χ LwP) {σ : St} (hI : Inv σ) : EvG w 9 mL_law 1223 (llv i) [] σ LwP := by
  obtain ⟨Po, c1, k1⟩ := j_restore hI (hw (i + 1) (by omega))
  refine ev_aload_n eL_law_1223 rfl ?_
  refine ev_aload_n eL_law_1224 rfl ?_
  refine ev_iload_n eL_law_1225 rfl ?_
  refine ev_iconst eL_law_1226 ?_
  refine ev_iadd eL_law_1227 ?_
  refine ev_sld (i + 1) eL_law_1228 rfl (by omega) (by omega) (by omega) ?_
  refine ev_cV1 eL_law_1229 ⟨lL_142, kX11_restore⟩ rfl rfl c1 ?_
  intro r τ hp
  obtain ⟨X, rfl, Pm, c2, k2⟩ := k1 r τ hp
  refine ev_aload_n eL_law_1232 rfl ?_
  refine ev_aload_n eL_law_1233 rfl ?_
  refine ev_iload_n eL_law_1234 rfl ?_
  refine ev_iconst eL_law_1235 ?_
  refine ev_iadd eL_law_1236 ?_
  refine ev_sld (i + 1) eL_law_1237 rfl (by omega) (by omega) (by omega) ?_
  refine ev_cV1 eL_law_1238 ⟨lL_145, kX12_restore⟩ rfl rfl c2 ?_
  intro r2 χ hq
  obtain ⟨rfl, hI2⟩ := k2 r2 χ hq
  exact ev_icmp_sm 1394 eL_law_1241 rfl (ih χ hI2)
theorem lw_c31 {w : Scr} (hwn : w.1 ≤ 3584) (hw : ∀ j, j < w.1 → -2147483648 ≤ w.2 j ∧ w.2 j ≤ 2147483647) {i : Nat} (hi : i + 7 ≤ w.1) (ih : ∀ χ, Inv χ → EvG w 9 mL_law 1394 (llv i) [] χ LwP) {σ : St} (hI : Inv σ) : EvG w 9 mL_law 1246 (llv i) [] σ LwP := by
  obtain ⟨Po, c1, k1⟩ := j_kind hI (hw (i + 1) (by omega))
  refine ev_aload_n eL_law_1246 rfl ?_
  refine ev_aload_n eL_law_1247 rfl ?_
  refine ev_iload_n eL_law_1248 rfl ?_
  refine ev_iconst eL_law_1249 ?_
  refine ev_iadd eL_law_1250 ?_
  refine ev_sld (i + 1) eL_law_1251 rfl (by omega) (by omega) (by omega) ?_
  refine ev_cV1 eL_law_1252 ⟨lL_146, kX11_kind⟩ rfl rfl c1 ?_
  intro r τ hp
  obtain ⟨X, rfl, Pm, c2, k2⟩ := k1 r τ hp
  refine ev_aload_n eL_law_1255 rfl ?_
  refine ev_aload_n eL_law_1256 rfl ?_
  refine ev_iload_n eL_law_1257 rfl ?_
  refine ev_iconst eL_law_1258 ?_
  refine ev_iadd eL_law_1259 ?_
  refine ev_sld (i + 1) eL_law_1260 rfl (by omega) (by omega) (by omega) ?_
  refine ev_cV1 eL_law_1261 ⟨lL_149, kX12_kind⟩ rfl rfl c2 ?_
  intro r2 χ hq
  obtain ⟨rfl, hI2⟩ := k2 r2 χ hq
  exact ev_icmp_sm 1394 eL_law_1264 rfl (ih χ hI2)
theorem lw_c32 {w : Scr} (hwn : w.1 ≤ 3584) (hw : ∀ j, j < w.1 → -2147483648 ≤ w.2 j ∧ w.2 j ≤ 2147483647) {i : Nat} (hi : i + 7 ≤ w.1) (ih : ∀ χ, Inv χ → EvG w 9 mL_law 1394 (llv i) [] χ LwP) {σ : St} (hI : Inv σ) : EvG w 9 mL_law 1269 (llv i) [] σ LwP := by
  obtain ⟨Po, c1, k1⟩ := j_as hI (hw (i + 1) (by omega)) (hw (i + 2) (by omega))
  refine ev_aload_n eL_law_1269 rfl ?_
  refine ev_aload_n eL_law_1270 rfl ?_
  refine ev_iload_n eL_law_1271 rfl ?_
  refine ev_iconst eL_law_1272 ?_
  refine ev_iadd eL_law_1273 ?_
  refine ev_sld (i + 1) eL_law_1274 rfl (by omega) (by omega) (by omega) ?_
  refine ev_aload_n eL_law_1275 rfl ?_
  refine ev_iload_n eL_law_1276 rfl ?_
  refine ev_iconst eL_law_1277 ?_
  refine ev_iadd eL_law_1278 ?_
  refine ev_sld (i + 2) eL_law_1279 rfl (by omega) (by omega) (by omega) ?_
  refine ev_cV2 eL_law_1280 ⟨lL_150, kX11_as⟩ rfl rfl c1 ?_
  intro r τ hp
  obtain ⟨X, rfl, Pm, c2, k2⟩ := k1 r τ hp
  refine ev_aload_n eL_law_1283 rfl ?_
  refine ev_aload_n eL_law_1284 rfl ?_
  refine ev_iload_n eL_law_1285 rfl ?_
  refine ev_iconst eL_law_1286 ?_
  refine ev_iadd eL_law_1287 ?_
  refine ev_sld (i + 1) eL_law_1288 rfl (by omega) (by omega) (by omega) ?_
  refine ev_aload_n eL_law_1289 rfl ?_
  refine ev_iload_n eL_law_1290 rfl ?_
  refine ev_iconst eL_law_1291 ?_
  refine ev_iadd eL_law_1292 ?_
  refine ev_sld (i + 2) eL_law_1293 rfl (by omega) (by omega) (by omega) ?_
  refine ev_cV2 eL_law_1294 ⟨lL_153, kX12_as⟩ rfl rfl c2 ?_
  intro r2 χ hq
  obtain ⟨rfl, hI2⟩ := k2 r2 χ hq
  exact ev_icmp_sm 1394 eL_law_1297 rfl (ih χ hI2)
theorem lw_c33 {w : Scr} (hwn : w.1 ≤ 3584) (hw : ∀ j, j < w.1 → -2147483648 ≤ w.2 j ∧ w.2 j ≤ 2147483647) {i : Nat} (hi : i + 7 ≤ w.1) (ih : ∀ χ, Inv χ → EvG w 9 mL_law 1394 (llv i) [] χ LwP) {σ : St} (hI : Inv σ) : EvG w 9 mL_law 1302 (llv i) [] σ LwP := by
  obtain ⟨Po, c1, k1⟩ := j_ask hI (hw (i + 1) (by omega)) (hw (i + 2) (by omega))
  refine ev_aload_n eL_law_1302 rfl ?_
  refine ev_aload_n eL_law_1303 rfl ?_
  refine ev_iload_n eL_law_1304 rfl ?_
  refine ev_iconst eL_law_1305 ?_
  refine ev_iadd eL_law_1306 ?_
  refine ev_sld (i + 1) eL_law_1307 rfl (by omega) (by omega) (by omega) ?_
  refine ev_aload_n eL_law_1308 rfl ?_
  refine ev_iload_n eL_law_1309 rfl ?_
  refine ev_iconst eL_law_1310 ?_
  refine ev_iadd eL_law_1311 ?_
  refine ev_sld (i + 2) eL_law_1312 rfl (by omega) (by omega) (by omega) ?_
  refine ev_cV2 eL_law_1313 ⟨lL_154, kX11_ask⟩ rfl rfl c1 ?_
  intro r τ hp
  obtain ⟨X, rfl, Pm, c2, k2⟩ := k1 r τ hp
  refine ev_aload_n eL_law_1316 rfl ?_
  refine ev_aload_n eL_law_1317 rfl ?_
  refine ev_iload_n eL_law_1318 rfl ?_
  refine ev_iconst eL_law_1319 ?_
  refine ev_iadd eL_law_1320 ?_
  refine ev_sld (i + 1) eL_law_1321 rfl (by omega) (by omega) (by omega) ?_
  refine ev_aload_n eL_law_1322 rfl ?_
  refine ev_iload_n eL_law_1323 rfl ?_
  refine ev_iconst eL_law_1324 ?_
  refine ev_iadd eL_law_1325 ?_
  refine ev_sld (i + 2) eL_law_1326 rfl (by omega) (by omega) (by omega) ?_
  refine ev_cV2 eL_law_1327 ⟨lL_157, kX12_ask⟩ rfl rfl c2 ?_
  intro r2 χ hq
  obtain ⟨rfl, hI2⟩ := k2 r2 χ hq
  exact ev_icmp_sm 1394 eL_law_1330 rfl (ih χ hI2)
theorem lw_c34 {w : Scr} (hwn : w.1 ≤ 3584) (hw : ∀ j, j < w.1 → -2147483648 ≤ w.2 j ∧ w.2 j ≤ 2147483647) {i : Nat} (hi : i + 7 ≤ w.1) (ih : ∀ χ, Inv χ → EvG w 9 mL_law 1394 (llv i) [] χ LwP) {σ : St} (hI : Inv σ) : EvG w 9 mL_law 1335 (llv i) [] σ LwP := by
  obtain ⟨Po, c1, k1⟩ := j_trace hI (hw (i + 1) (by omega))
  refine ev_aload_n eL_law_1335 rfl ?_
  refine ev_aload_n eL_law_1336 rfl ?_
  refine ev_iload_n eL_law_1337 rfl ?_
  refine ev_iconst eL_law_1338 ?_
  refine ev_iadd eL_law_1339 ?_
  refine ev_sld (i + 1) eL_law_1340 rfl (by omega) (by omega) (by omega) ?_
  refine ev_cV1 eL_law_1341 ⟨lL_158, kX11_trace⟩ rfl rfl c1 ?_
  intro r τ hp
  obtain ⟨X, rfl, Pm, c2, k2⟩ := k1 r τ hp
  refine ev_aload_n eL_law_1344 rfl ?_
  refine ev_aload_n eL_law_1345 rfl ?_
  refine ev_iload_n eL_law_1346 rfl ?_
  refine ev_iconst eL_law_1347 ?_
  refine ev_iadd eL_law_1348 ?_
  refine ev_sld (i + 1) eL_law_1349 rfl (by omega) (by omega) (by omega) ?_
  refine ev_cV1 eL_law_1350 ⟨lL_161, kX12_trace⟩ rfl rfl c2 ?_
  intro r2 χ hq
  obtain ⟨rfl, hI2⟩ := k2 r2 χ hq
  exact ev_icmp_sm 1394 eL_law_1353 rfl (ih χ hI2)
theorem lw_c35 {w : Scr} (hwn : w.1 ≤ 3584) (hw : ∀ j, j < w.1 → -2147483648 ≤ w.2 j ∧ w.2 j ≤ 2147483647) {i : Nat} (hi : i + 7 ≤ w.1) (ih : ∀ χ, Inv χ → EvG w 9 mL_law 1394 (llv i) [] χ LwP) {σ : St} (hI : Inv σ) : EvG w 9 mL_law 1358 (llv i) [] σ LwP := by
  obtain ⟨Po, c1, k1⟩ := j_count hI (hw (i + 1) (by omega))
  refine ev_aload_n eL_law_1358 rfl ?_
  refine ev_aload_n eL_law_1359 rfl ?_
  refine ev_iload_n eL_law_1360 rfl ?_
  refine ev_iconst eL_law_1361 ?_
  refine ev_iadd eL_law_1362 ?_
  refine ev_sld (i + 1) eL_law_1363 rfl (by omega) (by omega) (by omega) ?_
  refine ev_cV1 eL_law_1364 ⟨lL_162, kX11_count⟩ rfl rfl c1 ?_
  intro r τ hp
  obtain ⟨X, rfl, Pm, c2, k2⟩ := k1 r τ hp
  refine ev_aload_n eL_law_1367 rfl ?_
  refine ev_aload_n eL_law_1368 rfl ?_
  refine ev_iload_n eL_law_1369 rfl ?_
  refine ev_iconst eL_law_1370 ?_
  refine ev_iadd eL_law_1371 ?_
  refine ev_sld (i + 1) eL_law_1372 rfl (by omega) (by omega) (by omega) ?_
  refine ev_cV1 eL_law_1373 ⟨lL_165, kX12_count⟩ rfl rfl c2 ?_
  intro r2 χ hq
  obtain ⟨rfl, hI2⟩ := k2 r2 χ hq
  exact ev_icmp_sm 1394 eL_law_1376 rfl (ih χ hI2)
theorem lw_c36 {w : Scr} (hwn : w.1 ≤ 3584) (hw : ∀ j, j < w.1 → -2147483648 ≤ w.2 j ∧ w.2 j ≤ 2147483647) {i : Nat} (hi : i + 7 ≤ w.1) (ih : ∀ χ, Inv χ → EvG w 9 mL_law 1394 (llv i) [] χ LwP) {σ : St} (hI : Inv σ) : EvG w 9 mL_law 1381 (llv i) [] σ LwP := by
  obtain ⟨Po, c1, k1⟩ := j_status hI
  refine ev_aload_n eL_law_1381 rfl ?_
  refine ev_cV0 eL_law_1382 ⟨lL_166, kX11_status⟩ rfl rfl c1 ?_
  intro r τ hp
  obtain ⟨X, rfl, Pm, c2, k2⟩ := k1 r τ hp
  refine ev_aload_n eL_law_1385 rfl ?_
  refine ev_cV0 eL_law_1386 ⟨lL_169, kX12_status⟩ rfl rfl c2 ?_
  intro r2 χ hq
  obtain ⟨rfl, hI2⟩ := k2 r2 χ hq
  exact ev_icmp_sm 1394 eL_law_1389 rfl (ih χ hI2)
theorem lw_loop {w : Scr} (hwn : w.1 ≤ 3584) (hw : ∀ j, j < w.1 → -2147483648 ≤ w.2 j ∧ w.2 j ≤ 2147483647) : ∀ (fu i : Nat) (σ : St), w.1 + 7 - i < fu → i ≤ w.1 + 6 → Inv σ → EvG w 9 mL_law 18 (llv i) [] σ LwP := by
  intro fu
  induction fu with
  | zero => intro i σ h; omega
  | succ fu ih =>
    intro i σ hf hi6 hI
    refine ev_iload_n eL_law_18 rfl ?_
    refine ev_aload_n eL_law_19 rfl ?_
    refine ev_slen eL_law_20 rfl ?_
    refine ev_bipush eL_law_21 rfl ?_
    refine ev_isub eL_law_23 ?_
    refine ev_icmp_gt 1400 eL_law_24 rfl (by omega) (by omega) (fun h => ?_) (fun h => ?_)
    · refine ev_iconst eL_law_1400 ?_
      exact ev_zret eL_law_1401 rfl (Or.inr rfl) rfl
    · have hi : i + 7 ≤ w.1 := by omega
      have ih2 : ∀ χ, Inv χ → EvG w 9 mL_law 1394 (llv i) [] χ LwP := fun χ hx => by
        refine ev_iinc eL_law_1394 rfl (by decide) ?_
        refine ev_n1 (lv2 := [.ref 66, .ref 0, .ref 45, vi ((i : Int) + 7)]) rfl ?_
        rw [show vi ((i : Int) + 7) = vi ((i + 7 : Nat) : Int) from congrArg vi (by omega)]
        refine ev_goto 18 eL_law_1397 rfl ?_
        exact ih (i + 7) χ (by omega) (by omega) hx
      refine ev_aload_n eL_law_27 rfl ?_
      refine ev_iload_n eL_law_28 rfl ?_
      refine ev_sld i eL_law_29 rfl rfl (by omega) (by omega) ?_
      refine ev_bipush eL_law_30 rfl ?_
      refine ev_iand eL_law_32 ?_
      have hr := iAnd_63 (w.2 i)
      generalize iAnd (w.2 i) 63 = x at hr ⊢
      by_cases hsw : x < 0 ∨ 36 < x
      · refine ev_tswO 1394 eL_law_33 (by omega) (by omega) rfl ?_
        exact ih2 σ hI
      · rcases (show x = 0 ∨ x = 1 ∨ x = 2 ∨ x = 3 ∨ x = 4 ∨ x = 5 ∨ x = 6 ∨ x = 7 ∨ x = 8 ∨ x = 9 ∨ x = 10 ∨ x = 11 ∨ x = 12 ∨ x = 13 ∨ x = 14 ∨ x = 15 ∨ x = 16 ∨ x = 17 ∨ x = 18 ∨ x = 19 ∨ x = 20 ∨ x = 21 ∨ x = 22 ∨ x = 23 ∨ x = 24 ∨ x = 25 ∨ x = 26 ∨ x = 27 ∨ x = 28 ∨ x = 29 ∨ x = 30 ∨ x = 31 ∨ x = 32 ∨ x = 33 ∨ x = 34 ∨ x = 35 ∨ x = 36 by omega) with rfl | rfl | rfl | rfl | rfl | rfl | rfl | rfl | rfl | rfl | rfl | rfl | rfl | rfl | rfl | rfl | rfl | rfl | rfl | rfl | rfl | rfl | rfl | rfl | rfl | rfl | rfl | rfl | rfl | rfl | rfl | rfl | rfl | rfl | rfl | rfl | rfl
        · exact ev_tswI 196 eL_law_33 (by omega) (by omega) rfl rfl (lw_c0 hwn hw hi ih2 hI)
        · exact ev_tswI 239 eL_law_33 (by omega) (by omega) rfl rfl (lw_c1 hwn hw hi ih2 hI)
        · exact ev_tswI 282 eL_law_33 (by omega) (by omega) rfl rfl (lw_c2 hwn hw hi ih2 hI)
        · exact ev_tswI 345 eL_law_33 (by omega) (by omega) rfl rfl (lw_c3 hwn hw hi ih2 hI)
        · exact ev_tswI 368 eL_law_33 (by omega) (by omega) rfl rfl (lw_c4 hwn hw hi ih2 hI)
        · exact ev_tswI 391 eL_law_33 (by omega) (by omega) rfl rfl (lw_c5 hwn hw hi ih2 hI)
        · exact ev_tswI 404 eL_law_33 (by omega) (by omega) rfl rfl (lw_c6 hwn hw hi ih2 hI)
        · exact ev_tswI 417 eL_law_33 (by omega) (by omega) rfl rfl (lw_c7 hwn hw hi ih2 hI)
        · exact ev_tswI 430 eL_law_33 (by omega) (by omega) rfl rfl (lw_c8 hwn hw hi ih2 hI)
        · exact ev_tswI 473 eL_law_33 (by omega) (by omega) rfl rfl (lw_c9 hwn hw hi ih2 hI)
        · exact ev_tswI 516 eL_law_33 (by omega) (by omega) rfl rfl (lw_c10 hwn hw hi ih2 hI)
        · exact ev_tswI 549 eL_law_33 (by omega) (by omega) rfl rfl (lw_c11 hwn hw hi ih2 hI)
        · exact ev_tswI 582 eL_law_33 (by omega) (by omega) rfl rfl (lw_c12 hwn hw hi ih2 hI)
        · exact ev_tswI 615 eL_law_33 (by omega) (by omega) rfl rfl (lw_c13 hwn hw hi ih2 hI)
        · exact ev_tswI 628 eL_law_33 (by omega) (by omega) rfl rfl (lw_c14 hwn hw hi ih2 hI)
        · exact ev_tswI 661 eL_law_33 (by omega) (by omega) rfl rfl (lw_c15 hwn hw hi ih2 hI)
        · exact ev_tswI 684 eL_law_33 (by omega) (by omega) rfl rfl (lw_c16 hwn hw hi ih2 hI)
        · exact ev_tswI 717 eL_law_33 (by omega) (by omega) rfl rfl (lw_c17 hwn hw hi ih2 hI)
        · exact ev_tswI 760 eL_law_33 (by omega) (by omega) rfl rfl (lw_c18 hwn hw hi ih2 hI)
        · exact ev_tswI 804 eL_law_33 (by omega) (by omega) rfl rfl (lw_c19 hwn hw hi ih2 hI)
        · exact ev_tswI 838 eL_law_33 (by omega) (by omega) rfl rfl (lw_c20 hwn hw hi ih2 hI)
        · exact ev_tswI 882 eL_law_33 (by omega) (by omega) rfl rfl (lw_c21 hwn hw hi ih2 hI)
        · exact ev_tswI 916 eL_law_33 (by omega) (by omega) rfl rfl (lw_c22 hwn hw hi ih2 hI)
        · exact ev_tswI 939 eL_law_33 (by omega) (by omega) rfl rfl (lw_c23 hwn hw hi ih2 hI)
        · exact ev_tswI 982 eL_law_33 (by omega) (by omega) rfl rfl (lw_c24 hwn hw hi ih2 hI)
        · exact ev_tswI 1057 eL_law_33 (by omega) (by omega) rfl rfl (lw_c25 hwn hw hi ih2 hI)
        · exact ev_tswI 1070 eL_law_33 (by omega) (by omega) rfl rfl (lw_c26 hwn hw hi ih2 hI)
        · exact ev_tswI 1103 eL_law_33 (by omega) (by omega) rfl rfl (lw_c27 hwn hw hi ih2 hI)
        · exact ev_tswI 1157 eL_law_33 (by omega) (by omega) rfl rfl (lw_c28 hwn hw hi ih2 hI)
        · exact ev_tswI 1200 eL_law_33 (by omega) (by omega) rfl rfl (lw_c29 hwn hw hi ih2 hI)
        · exact ev_tswI 1223 eL_law_33 (by omega) (by omega) rfl rfl (lw_c30 hwn hw hi ih2 hI)
        · exact ev_tswI 1246 eL_law_33 (by omega) (by omega) rfl rfl (lw_c31 hwn hw hi ih2 hI)
        · exact ev_tswI 1269 eL_law_33 (by omega) (by omega) rfl rfl (lw_c32 hwn hw hi ih2 hI)
        · exact ev_tswI 1302 eL_law_33 (by omega) (by omega) rfl rfl (lw_c33 hwn hw hi ih2 hI)
        · exact ev_tswI 1335 eL_law_33 (by omega) (by omega) rfl rfl (lw_c34 hwn hw hi ih2 hI)
        · exact ev_tswI 1358 eL_law_33 (by omega) (by omega) rfl rfl (lw_c35 hwn hw hi ih2 hI)
        · exact ev_tswI 1381 eL_law_33 (by omega) (by omega) rfl rfl (lw_c36 hwn hw hi ih2 hI)
