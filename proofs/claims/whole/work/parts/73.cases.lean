/-! the law: its cases, walked -/
set_option maxHeartbeats 4000000 in
theorem w_row {g : z_G} {X : z_X} {h : z_H} {ad : Nat → Nat} {i k n : Nat} {r : Nat × Nat × Nat} (hI : aJ ad) (hL : lI h ad) (hi : i + 6 ≤ g_L g) (hN : g_L g ≤ 3072) (hr : 40 ≤ r.1 ∧ k + 6 ≤ r.2.1 ∧ n + 1260 ≤ r.2.2) (KK : ∀ h2, lI h2 ad → z_w g X cL_law RL r 1474 [z_r (g_b g), z_r (ad 0), z_r (lA ad 0), z_i (i : Int)] [] h2 (k + 6) (n + 1260)) : z_w g X cL_law RL r 220 [z_r (g_b g), z_r (ad 0), z_r (lA ad 0), z_i (i : Int)] [] h k n := by
  obtain ⟨⟨fs, hh8⟩, d8, mc, ms, q1, q2, q3, D8⟩ := lq_row (g := g) hI hL (lx_in g (i + 1)) (lx_in g (i + 2)) (lx_in g (i + 3))
  refine z_aload_n dL_law_220 rfl ?_
  refine z_aload_n dL_law_221 rfl ?_
  refine z_iload_n dL_law_222 rfl ?_
  refine z_iconst dL_law_223 ?_
  refine z_iadd dL_law_224 ?_
  refine z_xld (m := i + 1) dL_law_225 (by omega) ⟨by omega, by omega⟩ ?_
  refine z_aload_n dL_law_226 rfl ?_
  refine z_iload_n dL_law_227 rfl ?_
  refine z_iconst dL_law_228 ?_
  refine z_iadd dL_law_229 ?_
  refine z_xld (m := i + 2) dL_law_230 (by omega) ⟨by omega, by omega⟩ ?_
  refine z_aload_n dL_law_231 rfl ?_
  refine z_iload_n dL_law_232 rfl ?_
  refine z_iconst dL_law_233 ?_
  refine z_iadd dL_law_234 ?_
  refine z_xld (m := i + 3) dL_law_235 (by omega) ⟨by omega, by omega⟩ ?_
  refine cs_L_13 dL_law_236 D8 hh8 rfl rfl (Nat.le_of_ble_eq_true rfl) ⟨by omega, by omega, by omega⟩ (fun rv h1 HH => ?_)
  obtain ⟨v, rfl, ⟨fs9, hh9⟩, d9, q4, D9⟩ := HH
  show z_w g X cL_law RL r 239 [z_r (g_b g), z_r (ad 0), z_r (lA ad 0), z_i (i : Int)] [z_i v] h1 (k + mc) (n + ms)
  refine z_aload_n dL_law_239 rfl ?_
  refine z_aload_n dL_law_240 rfl ?_
  refine z_iload_n dL_law_241 rfl ?_
  refine z_iconst dL_law_242 ?_
  refine z_iadd dL_law_243 ?_
  refine z_xld (m := i + 1) dL_law_244 (by omega) ⟨by omega, by omega⟩ ?_
  refine z_aload_n dL_law_245 rfl ?_
  refine z_iload_n dL_law_246 rfl ?_
  refine z_iconst dL_law_247 ?_
  refine z_iadd dL_law_248 ?_
  refine z_xld (m := i + 2) dL_law_249 (by omega) ⟨by omega, by omega⟩ ?_
  refine z_aload_n dL_law_250 rfl ?_
  refine z_iload_n dL_law_251 rfl ?_
  refine z_iconst dL_law_252 ?_
  refine z_iadd dL_law_253 ?_
  refine z_xld (m := i + 3) dL_law_254 (by omega) ⟨by omega, by omega⟩ ?_
  refine cs_L_17 dL_law_255 D9 hh9 rfl rfl (Nat.le_of_ble_eq_true rfl) ⟨by omega, by omega, by omega⟩ (fun rv2 h2 HH2 => ?_)
  obtain ⟨rfl, hL2⟩ := HH2
  show z_w g X cL_law RL r 258 [z_r (g_b g), z_r (ad 0), z_r (lA ad 0), z_i (i : Int)] [z_i v, z_i v] h2 (k + mc + 0) (n + ms + 0)
  refine z_icmpS dL_law_258 (tgt := 1474) rfl ?_
  exact z_wk (by omega) (by omega) (KK h2 hL2)
set_option maxHeartbeats 4000000 in
theorem w_set {g : z_G} {X : z_X} {h : z_H} {ad : Nat → Nat} {i k n : Nat} {r : Nat × Nat × Nat} (hI : aJ ad) (hL : lI h ad) (hi : i + 6 ≤ g_L g) (hN : g_L g ≤ 3072) (hr : 40 ≤ r.1 ∧ k + 6 ≤ r.2.1 ∧ n + 1260 ≤ r.2.2) (KK : ∀ h2, lI h2 ad → z_w g X cL_law RL r 1474 [z_r (g_b g), z_r (ad 0), z_r (lA ad 0), z_i (i : Int)] [] h2 (k + 6) (n + 1260)) : z_w g X cL_law RL r 263 [z_r (g_b g), z_r (ad 0), z_r (lA ad 0), z_i (i : Int)] [] h k n := by
  obtain ⟨⟨fs, hh8⟩, d8, mc, ms, q1, q2, q3, D8⟩ := lq_set (g := g) hI hL (lx_in g (i + 1)) (lx_in g (i + 2)) (l_or_in (l_shl (lx g (i + 3)) 32) (l_and (lx g (i + 4)) 4294967295))
  refine z_aload_n dL_law_263 rfl ?_
  refine z_aload_n dL_law_264 rfl ?_
  refine z_iload_n dL_law_265 rfl ?_
  refine z_iconst dL_law_266 ?_
  refine z_iadd dL_law_267 ?_
  refine z_xld (m := i + 1) dL_law_268 (by omega) ⟨by omega, by omega⟩ ?_
  refine z_aload_n dL_law_269 rfl ?_
  refine z_iload_n dL_law_270 rfl ?_
  refine z_iconst dL_law_271 ?_
  refine z_iadd dL_law_272 ?_
  refine z_xld (m := i + 2) dL_law_273 (by omega) ⟨by omega, by omega⟩ ?_
  refine z_aload_n dL_law_274 rfl ?_
  refine z_iload_n dL_law_275 rfl ?_
  refine z_iconst dL_law_276 ?_
  refine z_iadd dL_law_277 ?_
  refine z_xld (m := i + 3) dL_law_278 (by omega) ⟨by omega, by omega⟩ ?_
  refine z_i2l dL_law_279 (lx_in g _) ?_
  refine z_bipush dL_law_280 rfl ?_
  refine z_lshlG dL_law_282 ?_
  refine z_aload_n dL_law_283 rfl ?_
  refine z_iload_n dL_law_284 rfl ?_
  refine z_iconst dL_law_285 ?_
  refine z_iadd dL_law_286 ?_
  refine z_xld (m := i + 4) dL_law_287 (by omega) ⟨by omega, by omega⟩ ?_
  refine z_i2l dL_law_288 (lx_in g _) ?_
  refine z_ldc2 dL_law_289 lw_L_18 ?_
  refine z_landG dL_law_292 ?_
  refine z_lorG dL_law_293 ?_
  refine cs_L_20 dL_law_294 D8 hh8 rfl rfl (Nat.le_of_ble_eq_true rfl) ⟨by omega, by omega, by omega⟩ (fun rv h1 HH => ?_)
  obtain ⟨v, rfl, ⟨fs9, hh9⟩, d9, q4, D9⟩ := HH
  show z_w g X cL_law RL r 297 [z_r (g_b g), z_r (ad 0), z_r (lA ad 0), z_i (i : Int)] [z_i v] h1 (k + mc) (n + ms)
  refine z_aload_n dL_law_297 rfl ?_
  refine z_aload_n dL_law_298 rfl ?_
  refine z_iload_n dL_law_299 rfl ?_
  refine z_iconst dL_law_300 ?_
  refine z_iadd dL_law_301 ?_
  refine z_xld (m := i + 1) dL_law_302 (by omega) ⟨by omega, by omega⟩ ?_
  refine z_aload_n dL_law_303 rfl ?_
  refine z_iload_n dL_law_304 rfl ?_
  refine z_iconst dL_law_305 ?_
  refine z_iadd dL_law_306 ?_
  refine z_xld (m := i + 2) dL_law_307 (by omega) ⟨by omega, by omega⟩ ?_
  refine z_aload_n dL_law_308 rfl ?_
  refine z_iload_n dL_law_309 rfl ?_
  refine z_iconst dL_law_310 ?_
  refine z_iadd dL_law_311 ?_
  refine z_xld (m := i + 3) dL_law_312 (by omega) ⟨by omega, by omega⟩ ?_
  refine z_i2l dL_law_313 (lx_in g _) ?_
  refine z_bipush dL_law_314 rfl ?_
  refine z_lshlG dL_law_316 ?_
  refine z_aload_n dL_law_317 rfl ?_
  refine z_iload_n dL_law_318 rfl ?_
  refine z_iconst dL_law_319 ?_
  refine z_iadd dL_law_320 ?_
  refine z_xld (m := i + 4) dL_law_321 (by omega) ⟨by omega, by omega⟩ ?_
  refine z_i2l dL_law_322 (lx_in g _) ?_
  refine z_ldc2 dL_law_323 lw_L_18 ?_
  refine z_landG dL_law_326 ?_
  refine z_lorG dL_law_327 ?_
  refine cs_L_24 dL_law_328 D9 hh9 rfl rfl (Nat.le_of_ble_eq_true rfl) ⟨by omega, by omega, by omega⟩ (fun rv2 h2 HH2 => ?_)
  obtain ⟨rfl, hL2⟩ := HH2
  show z_w g X cL_law RL r 331 [z_r (g_b g), z_r (ad 0), z_r (lA ad 0), z_i (i : Int)] [z_i v, z_i v] h2 (k + mc + 0) (n + ms + 0)
  refine z_icmpS dL_law_331 (tgt := 1474) rfl ?_
  exact z_wk (by omega) (by omega) (KK h2 hL2)
set_option maxHeartbeats 4000000 in
theorem w_copy {g : z_G} {X : z_X} {h : z_H} {ad : Nat → Nat} {i k n : Nat} {r : Nat × Nat × Nat} (hI : aJ ad) (hL : lI h ad) (hi : i + 6 ≤ g_L g) (hN : g_L g ≤ 3072) (hr : 40 ≤ r.1 ∧ k + 6 ≤ r.2.1 ∧ n + 1260 ≤ r.2.2) (KK : ∀ h2, lI h2 ad → z_w g X cL_law RL r 1474 [z_r (g_b g), z_r (ad 0), z_r (lA ad 0), z_i (i : Int)] [] h2 (k + 6) (n + 1260)) : z_w g X cL_law RL r 336 [z_r (g_b g), z_r (ad 0), z_r (lA ad 0), z_i (i : Int)] [] h k n := by
  obtain ⟨⟨fs, hh8⟩, d8, mc, ms, q1, q2, q3, D8⟩ := lq_copy (g := g) hI hL (lx_in g (i + 1)) (lx_in g (i + 2)) (lx_in g (i + 3)) (lx_in g (i + 4)) (lx_in g (i + 5))
  refine z_aload_n dL_law_336 rfl ?_
  refine z_aload_n dL_law_337 rfl ?_
  refine z_iload_n dL_law_338 rfl ?_
  refine z_iconst dL_law_339 ?_
  refine z_iadd dL_law_340 ?_
  refine z_xld (m := i + 1) dL_law_341 (by omega) ⟨by omega, by omega⟩ ?_
  refine z_aload_n dL_law_342 rfl ?_
  refine z_iload_n dL_law_343 rfl ?_
  refine z_iconst dL_law_344 ?_
  refine z_iadd dL_law_345 ?_
  refine z_xld (m := i + 2) dL_law_346 (by omega) ⟨by omega, by omega⟩ ?_
  refine z_aload_n dL_law_347 rfl ?_
  refine z_iload_n dL_law_348 rfl ?_
  refine z_iconst dL_law_349 ?_
  refine z_iadd dL_law_350 ?_
  refine z_xld (m := i + 3) dL_law_351 (by omega) ⟨by omega, by omega⟩ ?_
  refine z_aload_n dL_law_352 rfl ?_
  refine z_iload_n dL_law_353 rfl ?_
  refine z_iconst dL_law_354 ?_
  refine z_iadd dL_law_355 ?_
  refine z_xld (m := i + 4) dL_law_356 (by omega) ⟨by omega, by omega⟩ ?_
  refine z_aload_n dL_law_357 rfl ?_
  refine z_iload_n dL_law_358 rfl ?_
  refine z_iconst dL_law_359 ?_
  refine z_iadd dL_law_360 ?_
  refine z_xld (m := i + 5) dL_law_361 (by omega) ⟨by omega, by omega⟩ ?_
  refine cs_L_25 dL_law_362 D8 hh8 rfl rfl (Nat.le_of_ble_eq_true rfl) ⟨by omega, by omega, by omega⟩ (fun rv h1 HH => ?_)
  obtain ⟨v, rfl, ⟨fs9, hh9⟩, d9, q4, D9⟩ := HH
  show z_w g X cL_law RL r 365 [z_r (g_b g), z_r (ad 0), z_r (lA ad 0), z_i (i : Int)] [z_i v] h1 (k + mc) (n + ms)
  refine z_aload_n dL_law_365 rfl ?_
  refine z_aload_n dL_law_366 rfl ?_
  refine z_iload_n dL_law_367 rfl ?_
  refine z_iconst dL_law_368 ?_
  refine z_iadd dL_law_369 ?_
  refine z_xld (m := i + 1) dL_law_370 (by omega) ⟨by omega, by omega⟩ ?_
  refine z_aload_n dL_law_371 rfl ?_
  refine z_iload_n dL_law_372 rfl ?_
  refine z_iconst dL_law_373 ?_
  refine z_iadd dL_law_374 ?_
  refine z_xld (m := i + 2) dL_law_375 (by omega) ⟨by omega, by omega⟩ ?_
  refine z_aload_n dL_law_376 rfl ?_
  refine z_iload_n dL_law_377 rfl ?_
  refine z_iconst dL_law_378 ?_
  refine z_iadd dL_law_379 ?_
  refine z_xld (m := i + 3) dL_law_380 (by omega) ⟨by omega, by omega⟩ ?_
  refine z_aload_n dL_law_381 rfl ?_
  refine z_iload_n dL_law_382 rfl ?_
  refine z_iconst dL_law_383 ?_
  refine z_iadd dL_law_384 ?_
  refine z_xld (m := i + 4) dL_law_385 (by omega) ⟨by omega, by omega⟩ ?_
  refine z_aload_n dL_law_386 rfl ?_
  refine z_iload_n dL_law_387 rfl ?_
  refine z_iconst dL_law_388 ?_
  refine z_iadd dL_law_389 ?_
  refine z_xld (m := i + 5) dL_law_390 (by omega) ⟨by omega, by omega⟩ ?_
  refine cs_L_29 dL_law_391 D9 hh9 rfl rfl (Nat.le_of_ble_eq_true rfl) ⟨by omega, by omega, by omega⟩ (fun rv2 h2 HH2 => ?_)
  obtain ⟨rfl, hL2⟩ := HH2
  show z_w g X cL_law RL r 394 [z_r (g_b g), z_r (ad 0), z_r (lA ad 0), z_i (i : Int)] [z_i v, z_i v] h2 (k + mc + 0) (n + ms + 0)
  refine z_icmpS dL_law_394 (tgt := 1474) rfl ?_
  exact z_wk (by omega) (by omega) (KK h2 hL2)
set_option maxHeartbeats 4000000 in
theorem w_element {g : z_G} {X : z_X} {h : z_H} {ad : Nat → Nat} {i k n : Nat} {r : Nat × Nat × Nat} (hI : aJ ad) (hL : lI h ad) (hi : i + 6 ≤ g_L g) (hN : g_L g ≤ 3072) (hr : 40 ≤ r.1 ∧ k + 6 ≤ r.2.1 ∧ n + 1260 ≤ r.2.2) (KK : ∀ h2, lI h2 ad → z_w g X cL_law RL r 1474 [z_r (g_b g), z_r (ad 0), z_r (lA ad 0), z_i (i : Int)] [] h2 (k + 6) (n + 1260)) : z_w g X cL_law RL r 399 [z_r (g_b g), z_r (ad 0), z_r (lA ad 0), z_i (i : Int)] [] h k n := by
  obtain ⟨⟨fs, hh8⟩, d8, mc, ms, q1, q2, q3, D8⟩ := lq_element (g := g) hI hL (lx_in g (i + 1)) (lx_in g (i + 2))
  refine z_aload_n dL_law_399 rfl ?_
  refine z_aload_n dL_law_400 rfl ?_
  refine z_iload_n dL_law_401 rfl ?_
  refine z_iconst dL_law_402 ?_
  refine z_iadd dL_law_403 ?_
  refine z_xld (m := i + 1) dL_law_404 (by omega) ⟨by omega, by omega⟩ ?_
  refine z_aload_n dL_law_405 rfl ?_
  refine z_iload_n dL_law_406 rfl ?_
  refine z_iconst dL_law_407 ?_
  refine z_iadd dL_law_408 ?_
  refine z_xld (m := i + 2) dL_law_409 (by omega) ⟨by omega, by omega⟩ ?_
  refine cs_L_30 dL_law_410 D8 hh8 rfl rfl (Nat.le_of_ble_eq_true rfl) ⟨by omega, by omega, by omega⟩ (fun rv h1 HH => ?_)
  obtain ⟨v, rfl, ⟨fs9, hh9⟩, d9, q4, D9⟩ := HH
  show z_w g X cL_law RL r 413 [z_r (g_b g), z_r (ad 0), z_r (lA ad 0), z_i (i : Int)] [z_l v] h1 (k + mc) (n + ms)
  refine z_aload_n dL_law_413 rfl ?_
  refine z_aload_n dL_law_414 rfl ?_
  refine z_iload_n dL_law_415 rfl ?_
  refine z_iconst dL_law_416 ?_
  refine z_iadd dL_law_417 ?_
  refine z_xld (m := i + 1) dL_law_418 (by omega) ⟨by omega, by omega⟩ ?_
  refine z_aload_n dL_law_419 rfl ?_
  refine z_iload_n dL_law_420 rfl ?_
  refine z_iconst dL_law_421 ?_
  refine z_iadd dL_law_422 ?_
  refine z_xld (m := i + 2) dL_law_423 (by omega) ⟨by omega, by omega⟩ ?_
  refine cs_L_34 dL_law_424 D9 hh9 rfl rfl (Nat.le_of_ble_eq_true rfl) ⟨by omega, by omega, by omega⟩ (fun rv2 h2 HH2 => ?_)
  obtain ⟨rfl, hL2⟩ := HH2
  show z_w g X cL_law RL r 427 [z_r (g_b g), z_r (ad 0), z_r (lA ad 0), z_i (i : Int)] [z_l v, z_l v] h2 (k + mc + 0) (n + ms + 0)
  refine z_lcmpS dL_law_427 ?_
  refine z_if_eq dL_law_428 (tgt := 1474) rfl (by decide) (fun _ => ?_) (fun q => absurd rfl q)
  exact z_wk (by omega) (by omega) (KK h2 hL2)
set_option maxHeartbeats 4000000 in
theorem w_holds {g : z_G} {X : z_X} {h : z_H} {ad : Nat → Nat} {i k n : Nat} {r : Nat × Nat × Nat} (hI : aJ ad) (hL : lI h ad) (hi : i + 6 ≤ g_L g) (hN : g_L g ≤ 3072) (hr : 40 ≤ r.1 ∧ k + 6 ≤ r.2.1 ∧ n + 1260 ≤ r.2.2) (KK : ∀ h2, lI h2 ad → z_w g X cL_law RL r 1474 [z_r (g_b g), z_r (ad 0), z_r (lA ad 0), z_i (i : Int)] [] h2 (k + 6) (n + 1260)) : z_w g X cL_law RL r 433 [z_r (g_b g), z_r (ad 0), z_r (lA ad 0), z_i (i : Int)] [] h k n := by
  obtain ⟨⟨fs, hh8⟩, d8, mc, ms, q1, q2, q3, D8⟩ := lq_holds (g := g) hI hL (lx_in g (i + 1))
  refine z_aload_n dL_law_433 rfl ?_
  refine z_aload_n dL_law_434 rfl ?_
  refine z_iload_n dL_law_435 rfl ?_
  refine z_iconst dL_law_436 ?_
  refine z_iadd dL_law_437 ?_
  refine z_xld (m := i + 1) dL_law_438 (by omega) ⟨by omega, by omega⟩ ?_
  refine cs_L_35 dL_law_439 D8 hh8 rfl rfl (Nat.le_of_ble_eq_true rfl) ⟨by omega, by omega, by omega⟩ (fun rv h1 HH => ?_)
  obtain ⟨v, rfl, ⟨fs9, hh9⟩, d9, q4, D9⟩ := HH
  show z_w g X cL_law RL r 442 [z_r (g_b g), z_r (ad 0), z_r (lA ad 0), z_i (i : Int)] [z_i v] h1 (k + mc) (n + ms)
  refine z_aload_n dL_law_442 rfl ?_
  refine z_aload_n dL_law_443 rfl ?_
  refine z_iload_n dL_law_444 rfl ?_
  refine z_iconst dL_law_445 ?_
  refine z_iadd dL_law_446 ?_
  refine z_xld (m := i + 1) dL_law_447 (by omega) ⟨by omega, by omega⟩ ?_
  refine cs_L_39 dL_law_448 D9 hh9 rfl rfl (Nat.le_of_ble_eq_true rfl) ⟨by omega, by omega, by omega⟩ (fun rv2 h2 HH2 => ?_)
  obtain ⟨rfl, hL2⟩ := HH2
  show z_w g X cL_law RL r 451 [z_r (g_b g), z_r (ad 0), z_r (lA ad 0), z_i (i : Int)] [z_i v, z_i v] h2 (k + mc + 0) (n + ms + 0)
  refine z_icmpS dL_law_451 (tgt := 1474) rfl ?_
  exact z_wk (by omega) (by omega) (KK h2 hL2)
set_option maxHeartbeats 4000000 in
theorem w_show {g : z_G} {X : z_X} {h : z_H} {ad : Nat → Nat} {i k n : Nat} {r : Nat × Nat × Nat} (hI : aJ ad) (hL : lI h ad) (hi : i + 6 ≤ g_L g) (hN : g_L g ≤ 3072) (hr : 40 ≤ r.1 ∧ k + 6 ≤ r.2.1 ∧ n + 1260 ≤ r.2.2) (KK : ∀ h2, lI h2 ad → z_w g X cL_law RL r 1474 [z_r (g_b g), z_r (ad 0), z_r (lA ad 0), z_i (i : Int)] [] h2 (k + 6) (n + 1260)) : z_w g X cL_law RL r 456 [z_r (g_b g), z_r (ad 0), z_r (lA ad 0), z_i (i : Int)] [] h k n := by
  obtain ⟨⟨fs, hh8⟩, d8, mc, ms, q1, q2, q3, D8⟩ := lq_show (g := g) hI hL (lx_in g (i + 1)) (lx_in g (i + 2)) (lx_in g (i + 3))
  refine z_aload_n dL_law_456 rfl ?_
  refine z_aload_n dL_law_457 rfl ?_
  refine z_iload_n dL_law_458 rfl ?_
  refine z_iconst dL_law_459 ?_
  refine z_iadd dL_law_460 ?_
  refine z_xld (m := i + 1) dL_law_461 (by omega) ⟨by omega, by omega⟩ ?_
  refine z_aload_n dL_law_462 rfl ?_
  refine z_iload_n dL_law_463 rfl ?_
  refine z_iconst dL_law_464 ?_
  refine z_iadd dL_law_465 ?_
  refine z_xld (m := i + 2) dL_law_466 (by omega) ⟨by omega, by omega⟩ ?_
  refine z_aload_n dL_law_467 rfl ?_
  refine z_iload_n dL_law_468 rfl ?_
  refine z_iconst dL_law_469 ?_
  refine z_iadd dL_law_470 ?_
  refine z_xld (m := i + 3) dL_law_471 (by omega) ⟨by omega, by omega⟩ ?_
  refine cs_L_40 dL_law_472 D8 hh8 rfl rfl (Nat.le_of_ble_eq_true rfl) ⟨by omega, by omega, by omega⟩ (fun rv h1 HH => ?_)
  obtain ⟨v, rfl, ⟨fs9, hh9⟩, d9, q4, D9⟩ := HH
  show z_w g X cL_law RL r 475 [z_r (g_b g), z_r (ad 0), z_r (lA ad 0), z_i (i : Int)] [z_i v] h1 (k + mc) (n + ms)
  refine z_aload_n dL_law_475 rfl ?_
  refine z_aload_n dL_law_476 rfl ?_
  refine z_iload_n dL_law_477 rfl ?_
  refine z_iconst dL_law_478 ?_
  refine z_iadd dL_law_479 ?_
  refine z_xld (m := i + 1) dL_law_480 (by omega) ⟨by omega, by omega⟩ ?_
  refine z_aload_n dL_law_481 rfl ?_
  refine z_iload_n dL_law_482 rfl ?_
  refine z_iconst dL_law_483 ?_
  refine z_iadd dL_law_484 ?_
  refine z_xld (m := i + 2) dL_law_485 (by omega) ⟨by omega, by omega⟩ ?_
  refine z_aload_n dL_law_486 rfl ?_
  refine z_iload_n dL_law_487 rfl ?_
  refine z_iconst dL_law_488 ?_
  refine z_iadd dL_law_489 ?_
  refine z_xld (m := i + 3) dL_law_490 (by omega) ⟨by omega, by omega⟩ ?_
  refine cs_L_43 dL_law_491 D9 hh9 rfl rfl (Nat.le_of_ble_eq_true rfl) ⟨by omega, by omega, by omega⟩ (fun rv2 h2 HH2 => ?_)
  obtain ⟨rfl, hL2⟩ := HH2
  show z_w g X cL_law RL r 494 [z_r (g_b g), z_r (ad 0), z_r (lA ad 0), z_i (i : Int)] [z_i v, z_i v] h2 (k + mc + 0) (n + ms + 0)
  refine z_icmpS dL_law_494 (tgt := 1474) rfl ?_
  exact z_wk (by omega) (by omega) (KK h2 hL2)
set_option maxHeartbeats 4000000 in
theorem w_says {g : z_G} {X : z_X} {h : z_H} {ad : Nat → Nat} {i k n : Nat} {r : Nat × Nat × Nat} (hI : aJ ad) (hL : lI h ad) (hi : i + 6 ≤ g_L g) (hN : g_L g ≤ 3072) (hr : 40 ≤ r.1 ∧ k + 6 ≤ r.2.1 ∧ n + 1260 ≤ r.2.2) (KK : ∀ h2, lI h2 ad → z_w g X cL_law RL r 1474 [z_r (g_b g), z_r (ad 0), z_r (lA ad 0), z_i (i : Int)] [] h2 (k + 6) (n + 1260)) : z_w g X cL_law RL r 499 [z_r (g_b g), z_r (ad 0), z_r (lA ad 0), z_i (i : Int)] [] h k n := by
  obtain ⟨⟨fs, hh8⟩, d8, mc, ms, q1, q2, q3, D8⟩ := lq_says (g := g) hI hL (lx_in g (i + 1)) (lx_in g (i + 2))
  refine z_aload_n dL_law_499 rfl ?_
  refine z_aload_n dL_law_500 rfl ?_
  refine z_iload_n dL_law_501 rfl ?_
  refine z_iconst dL_law_502 ?_
  refine z_iadd dL_law_503 ?_
  refine z_xld (m := i + 1) dL_law_504 (by omega) ⟨by omega, by omega⟩ ?_
  refine z_aload_n dL_law_505 rfl ?_
  refine z_iload_n dL_law_506 rfl ?_
  refine z_iconst dL_law_507 ?_
  refine z_iadd dL_law_508 ?_
  refine z_xld (m := i + 2) dL_law_509 (by omega) ⟨by omega, by omega⟩ ?_
  refine cs_L_44 dL_law_510 D8 hh8 rfl rfl (Nat.le_of_ble_eq_true rfl) ⟨by omega, by omega, by omega⟩ (fun rv h1 HH => ?_)
  obtain ⟨v, rfl, ⟨fs9, hh9⟩, d9, q4, D9⟩ := HH
  show z_w g X cL_law RL r 513 [z_r (g_b g), z_r (ad 0), z_r (lA ad 0), z_i (i : Int)] [z_i v] h1 (k + mc) (n + ms)
  refine z_aload_n dL_law_513 rfl ?_
  refine z_aload_n dL_law_514 rfl ?_
  refine z_iload_n dL_law_515 rfl ?_
  refine z_iconst dL_law_516 ?_
  refine z_iadd dL_law_517 ?_
  refine z_xld (m := i + 1) dL_law_518 (by omega) ⟨by omega, by omega⟩ ?_
  refine z_aload_n dL_law_519 rfl ?_
  refine z_iload_n dL_law_520 rfl ?_
  refine z_iconst dL_law_521 ?_
  refine z_iadd dL_law_522 ?_
  refine z_xld (m := i + 2) dL_law_523 (by omega) ⟨by omega, by omega⟩ ?_
  refine cs_L_48 dL_law_524 D9 hh9 rfl rfl (Nat.le_of_ble_eq_true rfl) ⟨by omega, by omega, by omega⟩ (fun rv2 h2 HH2 => ?_)
  obtain ⟨rfl, hL2⟩ := HH2
  show z_w g X cL_law RL r 527 [z_r (g_b g), z_r (ad 0), z_r (lA ad 0), z_i (i : Int)] [z_i v, z_i v] h2 (k + mc + 0) (n + ms + 0)
  refine z_icmpS dL_law_527 (tgt := 1474) rfl ?_
  exact z_wk (by omega) (by omega) (KK h2 hL2)
set_option maxHeartbeats 4000000 in
theorem w_feed {g : z_G} {X : z_X} {h : z_H} {ad : Nat → Nat} {i k n : Nat} {r : Nat × Nat × Nat} (hI : aJ ad) (hL : lI h ad) (hi : i + 6 ≤ g_L g) (hN : g_L g ≤ 3072) (hr : 40 ≤ r.1 ∧ k + 6 ≤ r.2.1 ∧ n + 1260 ≤ r.2.2) (KK : ∀ h2, lI h2 ad → z_w g X cL_law RL r 1474 [z_r (g_b g), z_r (ad 0), z_r (lA ad 0), z_i (i : Int)] [] h2 (k + 6) (n + 1260)) : z_w g X cL_law RL r 532 [z_r (g_b g), z_r (ad 0), z_r (lA ad 0), z_i (i : Int)] [] h k n := by
  obtain ⟨⟨fs, hh8⟩, d8, mc, ms, q1, q2, q3, D8⟩ := lq_feed (g := g) hI hL (lx_in g (i + 1))
  refine z_aload_n dL_law_532 rfl ?_
  refine z_aload_n dL_law_533 rfl ?_
  refine z_iload_n dL_law_534 rfl ?_
  refine z_iconst dL_law_535 ?_
  refine z_iadd dL_law_536 ?_
  refine z_xld (m := i + 1) dL_law_537 (by omega) ⟨by omega, by omega⟩ ?_
  refine cs_L_49 dL_law_538 D8 hh8 rfl rfl (Nat.le_of_ble_eq_true rfl) ⟨by omega, by omega, by omega⟩ (fun rv h1 HH => ?_)
  obtain ⟨v, rfl, ⟨fs9, hh9⟩, d9, q4, D9⟩ := HH
  show z_w g X cL_law RL r 541 [z_r (g_b g), z_r (ad 0), z_r (lA ad 0), z_i (i : Int)] [z_i v] h1 (k + mc) (n + ms)
  refine z_aload_n dL_law_541 rfl ?_
  refine z_aload_n dL_law_542 rfl ?_
  refine z_iload_n dL_law_543 rfl ?_
  refine z_iconst dL_law_544 ?_
  refine z_iadd dL_law_545 ?_
  refine z_xld (m := i + 1) dL_law_546 (by omega) ⟨by omega, by omega⟩ ?_
  refine cs_L_52 dL_law_547 D9 hh9 rfl rfl (Nat.le_of_ble_eq_true rfl) ⟨by omega, by omega, by omega⟩ (fun rv2 h2 HH2 => ?_)
  obtain ⟨rfl, hL2⟩ := HH2
  show z_w g X cL_law RL r 550 [z_r (g_b g), z_r (ad 0), z_r (lA ad 0), z_i (i : Int)] [z_i v, z_i v] h2 (k + mc + 0) (n + ms + 0)
  refine z_icmpS dL_law_550 (tgt := 1474) rfl ?_
  exact z_wk (by omega) (by omega) (KK h2 hL2)
set_option maxHeartbeats 4000000 in
theorem w_wipe {g : z_G} {X : z_X} {h : z_H} {ad : Nat → Nat} {i k n : Nat} {r : Nat × Nat × Nat} (hI : aJ ad) (hL : lI h ad) (hi : i + 6 ≤ g_L g) (hN : g_L g ≤ 3072) (hr : 40 ≤ r.1 ∧ k + 6 ≤ r.2.1 ∧ n + 1260 ≤ r.2.2) (KK : ∀ h2, lI h2 ad → z_w g X cL_law RL r 1474 [z_r (g_b g), z_r (ad 0), z_r (lA ad 0), z_i (i : Int)] [] h2 (k + 6) (n + 1260)) : z_w g X cL_law RL r 555 [z_r (g_b g), z_r (ad 0), z_r (lA ad 0), z_i (i : Int)] [] h k n := by
  obtain ⟨⟨fs, hh8⟩, d8, mc, ms, q1, q2, q3, D8⟩ := lq_wipe (g := g) hI hL
  refine z_aload_n dL_law_555 rfl ?_
  refine cs_L_53 dL_law_556 D8 hh8 rfl rfl (Nat.le_of_ble_eq_true rfl) ⟨by omega, by omega, by omega⟩ (fun rv h1 HH => ?_)
  obtain ⟨v, rfl, ⟨fs9, hh9⟩, d9, q4, D9⟩ := HH
  show z_w g X cL_law RL r 559 [z_r (g_b g), z_r (ad 0), z_r (lA ad 0), z_i (i : Int)] [z_i v] h1 (k + mc) (n + ms)
  refine z_aload_n dL_law_559 rfl ?_
  refine cs_L_57 dL_law_560 D9 hh9 rfl rfl (Nat.le_of_ble_eq_true rfl) ⟨by omega, by omega, by omega⟩ (fun rv2 h2 HH2 => ?_)
  obtain ⟨rfl, hL2⟩ := HH2
  show z_w g X cL_law RL r 563 [z_r (g_b g), z_r (ad 0), z_r (lA ad 0), z_i (i : Int)] [z_i v, z_i v] h2 (k + mc + 0) (n + ms + 0)
  refine z_icmpS dL_law_563 (tgt := 1474) rfl ?_
  exact z_wk (by omega) (by omega) (KK h2 hL2)
set_option maxHeartbeats 4000000 in
theorem w_line {g : z_G} {X : z_X} {h : z_H} {ad : Nat → Nat} {i k n : Nat} {r : Nat × Nat × Nat} (hI : aJ ad) (hL : lI h ad) (hi : i + 6 ≤ g_L g) (hN : g_L g ≤ 3072) (hr : 40 ≤ r.1 ∧ k + 6 ≤ r.2.1 ∧ n + 1260 ≤ r.2.2) (KK : ∀ h2, lI h2 ad → z_w g X cL_law RL r 1474 [z_r (g_b g), z_r (ad 0), z_r (lA ad 0), z_i (i : Int)] [] h2 (k + 6) (n + 1260)) : z_w g X cL_law RL r 568 [z_r (g_b g), z_r (ad 0), z_r (lA ad 0), z_i (i : Int)] [] h k n := by
  obtain ⟨⟨fs, hh8⟩, d8, mc, ms, q1, q2, q3, D8⟩ := lq_line (g := g) hI hL
  refine z_aload_n dL_law_568 rfl ?_
  refine cs_L_58 dL_law_569 D8 hh8 rfl rfl (Nat.le_of_ble_eq_true rfl) ⟨by omega, by omega, by omega⟩ (fun rv h1 HH => ?_)
  obtain ⟨v, rfl, ⟨fs9, hh9⟩, d9, q4, D9⟩ := HH
  show z_w g X cL_law RL r 572 [z_r (g_b g), z_r (ad 0), z_r (lA ad 0), z_i (i : Int)] [z_i v] h1 (k + mc) (n + ms)
  refine z_aload_n dL_law_572 rfl ?_
  refine cs_L_61 dL_law_573 D9 hh9 rfl rfl (Nat.le_of_ble_eq_true rfl) ⟨by omega, by omega, by omega⟩ (fun rv2 h2 HH2 => ?_)
  obtain ⟨rfl, hL2⟩ := HH2
  show z_w g X cL_law RL r 576 [z_r (g_b g), z_r (ad 0), z_r (lA ad 0), z_i (i : Int)] [z_i v, z_i v] h2 (k + mc + 0) (n + ms + 0)
  refine z_icmpS dL_law_576 (tgt := 1474) rfl ?_
  exact z_wk (by omega) (by omega) (KK h2 hL2)
set_option maxHeartbeats 4000000 in
theorem w_drop {g : z_G} {X : z_X} {h : z_H} {ad : Nat → Nat} {i k n : Nat} {r : Nat × Nat × Nat} (hI : aJ ad) (hL : lI h ad) (hi : i + 6 ≤ g_L g) (hN : g_L g ≤ 3072) (hr : 40 ≤ r.1 ∧ k + 6 ≤ r.2.1 ∧ n + 1260 ≤ r.2.2) (KK : ∀ h2, lI h2 ad → z_w g X cL_law RL r 1474 [z_r (g_b g), z_r (ad 0), z_r (lA ad 0), z_i (i : Int)] [] h2 (k + 6) (n + 1260)) : z_w g X cL_law RL r 581 [z_r (g_b g), z_r (ad 0), z_r (lA ad 0), z_i (i : Int)] [] h k n := by
  obtain ⟨⟨fs, hh8⟩, d8, mc, ms, q1, q2, q3, D8⟩ := lq_drop (g := g) hI hL
  refine z_aload_n dL_law_581 rfl ?_
  refine cs_L_62 dL_law_582 D8 hh8 rfl rfl (Nat.le_of_ble_eq_true rfl) ⟨by omega, by omega, by omega⟩ (fun rv h1 HH => ?_)
  obtain ⟨v, rfl, ⟨fs9, hh9⟩, d9, q4, D9⟩ := HH
  show z_w g X cL_law RL r 585 [z_r (g_b g), z_r (ad 0), z_r (lA ad 0), z_i (i : Int)] [z_i v] h1 (k + mc) (n + ms)
  refine z_aload_n dL_law_585 rfl ?_
  refine cs_L_65 dL_law_586 D9 hh9 rfl rfl (Nat.le_of_ble_eq_true rfl) ⟨by omega, by omega, by omega⟩ (fun rv2 h2 HH2 => ?_)
  obtain ⟨rfl, hL2⟩ := HH2
  show z_w g X cL_law RL r 589 [z_r (g_b g), z_r (ad 0), z_r (lA ad 0), z_i (i : Int)] [z_i v, z_i v] h2 (k + mc + 0) (n + ms + 0)
  refine z_icmpS dL_law_589 (tgt := 1474) rfl ?_
  exact z_wk (by omega) (by omega) (KK h2 hL2)
set_option maxHeartbeats 4000000 in
theorem w_mode {g : z_G} {X : z_X} {h : z_H} {ad : Nat → Nat} {i k n : Nat} {r : Nat × Nat × Nat} (hI : aJ ad) (hL : lI h ad) (hi : i + 6 ≤ g_L g) (hN : g_L g ≤ 3072) (hr : 40 ≤ r.1 ∧ k + 6 ≤ r.2.1 ∧ n + 1260 ≤ r.2.2) (KK : ∀ h2, lI h2 ad → z_w g X cL_law RL r 1474 [z_r (g_b g), z_r (ad 0), z_r (lA ad 0), z_i (i : Int)] [] h2 (k + 6) (n + 1260)) : z_w g X cL_law RL r 594 [z_r (g_b g), z_r (ad 0), z_r (lA ad 0), z_i (i : Int)] [] h k n := by
  obtain ⟨⟨fs, hh8⟩, d8, mc, ms, q1, q2, q3, D8⟩ := lq_mode (g := g) hI hL (lx_in g (i + 1))
  refine z_aload_n dL_law_594 rfl ?_
  refine z_aload_n dL_law_595 rfl ?_
  refine z_iload_n dL_law_596 rfl ?_
  refine z_iconst dL_law_597 ?_
  refine z_iadd dL_law_598 ?_
  refine z_xld (m := i + 1) dL_law_599 (by omega) ⟨by omega, by omega⟩ ?_
  refine cs_L_66 dL_law_600 D8 hh8 rfl rfl (Nat.le_of_ble_eq_true rfl) ⟨by omega, by omega, by omega⟩ (fun rv h1 HH => ?_)
  obtain ⟨v, rfl, ⟨fs9, hh9⟩, d9, q4, D9⟩ := HH
  show z_w g X cL_law RL r 603 [z_r (g_b g), z_r (ad 0), z_r (lA ad 0), z_i (i : Int)] [z_i v] h1 (k + mc) (n + ms)
  refine z_aload_n dL_law_603 rfl ?_
  refine z_aload_n dL_law_604 rfl ?_
  refine z_iload_n dL_law_605 rfl ?_
  refine z_iconst dL_law_606 ?_
  refine z_iadd dL_law_607 ?_
  refine z_xld (m := i + 1) dL_law_608 (by omega) ⟨by omega, by omega⟩ ?_
  refine cs_L_69 dL_law_609 D9 hh9 rfl rfl (Nat.le_of_ble_eq_true rfl) ⟨by omega, by omega, by omega⟩ (fun rv2 h2 HH2 => ?_)
  obtain ⟨rfl, hL2⟩ := HH2
  show z_w g X cL_law RL r 612 [z_r (g_b g), z_r (ad 0), z_r (lA ad 0), z_i (i : Int)] [z_i v, z_i v] h2 (k + mc + 0) (n + ms + 0)
  refine z_icmpS dL_law_612 (tgt := 1474) rfl ?_
  exact z_wk (by omega) (by omega) (KK h2 hL2)
set_option maxHeartbeats 4000000 in
theorem w_cast {g : z_G} {X : z_X} {h : z_H} {ad : Nat → Nat} {i k n : Nat} {r : Nat × Nat × Nat} (hI : aJ ad) (hL : lI h ad) (hi : i + 6 ≤ g_L g) (hN : g_L g ≤ 3072) (hr : 40 ≤ r.1 ∧ k + 6 ≤ r.2.1 ∧ n + 1260 ≤ r.2.2) (KK : ∀ h2, lI h2 ad → z_w g X cL_law RL r 1474 [z_r (g_b g), z_r (ad 0), z_r (lA ad 0), z_i (i : Int)] [] h2 (k + 6) (n + 1260)) : z_w g X cL_law RL r 617 [z_r (g_b g), z_r (ad 0), z_r (lA ad 0), z_i (i : Int)] [] h k n := by
  obtain ⟨⟨fs, hh8⟩, d8, mc, ms, q1, q2, q3, D8⟩ := lq_cast (g := g) hI hL (lx_in g (i + 1))
  refine z_aload_n dL_law_617 rfl ?_
  refine z_aload_n dL_law_618 rfl ?_
  refine z_iload_n dL_law_619 rfl ?_
  refine z_iconst dL_law_620 ?_
  refine z_iadd dL_law_621 ?_
  refine z_xld (m := i + 1) dL_law_622 (by omega) ⟨by omega, by omega⟩ ?_
  refine cs_L_70 dL_law_623 D8 hh8 rfl rfl (Nat.le_of_ble_eq_true rfl) ⟨by omega, by omega, by omega⟩ (fun rv h1 HH => ?_)
  obtain ⟨v, rfl, ⟨fs9, hh9⟩, d9, q4, D9⟩ := HH
  show z_w g X cL_law RL r 626 [z_r (g_b g), z_r (ad 0), z_r (lA ad 0), z_i (i : Int)] [z_i v] h1 (k + mc) (n + ms)
  refine z_aload_n dL_law_626 rfl ?_
  refine z_aload_n dL_law_627 rfl ?_
  refine z_iload_n dL_law_628 rfl ?_
  refine z_iconst dL_law_629 ?_
  refine z_iadd dL_law_630 ?_
  refine z_xld (m := i + 1) dL_law_631 (by omega) ⟨by omega, by omega⟩ ?_
  refine cs_L_73 dL_law_632 D9 hh9 rfl rfl (Nat.le_of_ble_eq_true rfl) ⟨by omega, by omega, by omega⟩ (fun rv2 h2 HH2 => ?_)
  obtain ⟨rfl, hL2⟩ := HH2
  show z_w g X cL_law RL r 635 [z_r (g_b g), z_r (ad 0), z_r (lA ad 0), z_i (i : Int)] [z_i v, z_i v] h2 (k + mc + 0) (n + ms + 0)
  refine z_icmpS dL_law_635 (tgt := 1474) rfl ?_
  exact z_wk (by omega) (by omega) (KK h2 hL2)
set_option maxHeartbeats 4000000 in
theorem w_work {g : z_G} {X : z_X} {h : z_H} {ad : Nat → Nat} {i k n : Nat} {r : Nat × Nat × Nat} (hI : aJ ad) (hL : lI h ad) (hi : i + 6 ≤ g_L g) (hN : g_L g ≤ 3072) (hr : 40 ≤ r.1 ∧ k + 6 ≤ r.2.1 ∧ n + 1260 ≤ r.2.2) (KK : ∀ h2, lI h2 ad → z_w g X cL_law RL r 1474 [z_r (g_b g), z_r (ad 0), z_r (lA ad 0), z_i (i : Int)] [] h2 (k + 6) (n + 1260)) : z_w g X cL_law RL r 640 [z_r (g_b g), z_r (ad 0), z_r (lA ad 0), z_i (i : Int)] [] h k n := by
  obtain ⟨⟨fs, hh8⟩, d8, mc, ms, q1, q2, q3, D8⟩ := lq_work (g := g) hI hL (lx_in g (i + 1))
  refine z_aload_n dL_law_640 rfl ?_
  refine z_aload_n dL_law_641 rfl ?_
  refine z_iload_n dL_law_642 rfl ?_
  refine z_iconst dL_law_643 ?_
  refine z_iadd dL_law_644 ?_
  refine z_xld (m := i + 1) dL_law_645 (by omega) ⟨by omega, by omega⟩ ?_
  refine cs_L_74 dL_law_646 D8 hh8 rfl rfl (Nat.le_of_ble_eq_true rfl) ⟨by omega, by omega, by omega⟩ (fun rv h1 HH => ?_)
  obtain ⟨v, rfl, ⟨fs9, hh9⟩, d9, q4, D9⟩ := HH
  show z_w g X cL_law RL r 649 [z_r (g_b g), z_r (ad 0), z_r (lA ad 0), z_i (i : Int)] [z_i v] h1 (k + mc) (n + ms)
  refine z_aload_n dL_law_649 rfl ?_
  refine z_aload_n dL_law_650 rfl ?_
  refine z_iload_n dL_law_651 rfl ?_
  refine z_iconst dL_law_652 ?_
  refine z_iadd dL_law_653 ?_
  refine z_xld (m := i + 1) dL_law_654 (by omega) ⟨by omega, by omega⟩ ?_
  refine cs_L_77 dL_law_655 D9 hh9 rfl rfl (Nat.le_of_ble_eq_true rfl) ⟨by omega, by omega, by omega⟩ (fun rv2 h2 HH2 => ?_)
  obtain ⟨rfl, hL2⟩ := HH2
  show z_w g X cL_law RL r 658 [z_r (g_b g), z_r (ad 0), z_r (lA ad 0), z_i (i : Int)] [z_i v, z_i v] h2 (k + mc + 0) (n + ms + 0)
  refine z_icmpS dL_law_658 (tgt := 1474) rfl ?_
  exact z_wk (by omega) (by omega) (KK h2 hL2)
set_option maxHeartbeats 4000000 in
theorem w_run {g : z_G} {X : z_X} {h : z_H} {ad : Nat → Nat} {i k n : Nat} {r : Nat × Nat × Nat} (hI : aJ ad) (hL : lI h ad) (hi : i + 6 ≤ g_L g) (hN : g_L g ≤ 3072) (hr : 40 ≤ r.1 ∧ k + 6 ≤ r.2.1 ∧ n + 1260 ≤ r.2.2) (KK : ∀ h2, lI h2 ad → z_w g X cL_law RL r 1474 [z_r (g_b g), z_r (ad 0), z_r (lA ad 0), z_i (i : Int)] [] h2 (k + 6) (n + 1260)) : z_w g X cL_law RL r 663 [z_r (g_b g), z_r (ad 0), z_r (lA ad 0), z_i (i : Int)] [] h k n := by
  obtain ⟨⟨fs, hh8⟩, d8, mc, ms, q1, q2, q3, D8⟩ := lq_run (g := g) hI hL (lx_in g (i + 1)) (lx_in g (i + 2)) (lx_in g (i + 3))
  refine z_aload_n dL_law_663 rfl ?_
  refine z_aload_n dL_law_664 rfl ?_
  refine z_iload_n dL_law_665 rfl ?_
  refine z_iconst dL_law_666 ?_
  refine z_iadd dL_law_667 ?_
  refine z_xld (m := i + 1) dL_law_668 (by omega) ⟨by omega, by omega⟩ ?_
  refine z_aload_n dL_law_669 rfl ?_
  refine z_iload_n dL_law_670 rfl ?_
  refine z_iconst dL_law_671 ?_
  refine z_iadd dL_law_672 ?_
  refine z_xld (m := i + 2) dL_law_673 (by omega) ⟨by omega, by omega⟩ ?_
  refine z_aload_n dL_law_674 rfl ?_
  refine z_iload_n dL_law_675 rfl ?_
  refine z_iconst dL_law_676 ?_
  refine z_iadd dL_law_677 ?_
  refine z_xld (m := i + 3) dL_law_678 (by omega) ⟨by omega, by omega⟩ ?_
  refine cs_L_78 dL_law_679 D8 hh8 rfl rfl (Nat.le_of_ble_eq_true rfl) ⟨by omega, by omega, by omega⟩ (fun rv h1 HH => ?_)
  obtain ⟨v, rfl, ⟨fs9, hh9⟩, d9, q4, D9⟩ := HH
  show z_w g X cL_law RL r 682 [z_r (g_b g), z_r (ad 0), z_r (lA ad 0), z_i (i : Int)] [z_i v] h1 (k + mc) (n + ms)
  refine z_aload_n dL_law_682 rfl ?_
  refine z_aload_n dL_law_683 rfl ?_
  refine z_iload_n dL_law_684 rfl ?_
  refine z_iconst dL_law_685 ?_
  refine z_iadd dL_law_686 ?_
  refine z_xld (m := i + 1) dL_law_687 (by omega) ⟨by omega, by omega⟩ ?_
  refine z_aload_n dL_law_688 rfl ?_
  refine z_iload_n dL_law_689 rfl ?_
  refine z_iconst dL_law_690 ?_
  refine z_iadd dL_law_691 ?_
  refine z_xld (m := i + 2) dL_law_692 (by omega) ⟨by omega, by omega⟩ ?_
  refine z_aload_n dL_law_693 rfl ?_
  refine z_iload_n dL_law_694 rfl ?_
  refine z_iconst dL_law_695 ?_
  refine z_iadd dL_law_696 ?_
  refine z_xld (m := i + 3) dL_law_697 (by omega) ⟨by omega, by omega⟩ ?_
  refine cs_L_81 dL_law_698 D9 hh9 rfl rfl (Nat.le_of_ble_eq_true rfl) ⟨by omega, by omega, by omega⟩ (fun rv2 h2 HH2 => ?_)
  obtain ⟨rfl, hL2⟩ := HH2
  show z_w g X cL_law RL r 701 [z_r (g_b g), z_r (ad 0), z_r (lA ad 0), z_i (i : Int)] [z_i v, z_i v] h2 (k + mc + 0) (n + ms + 0)
  refine z_icmpS dL_law_701 (tgt := 1474) rfl ?_
  exact z_wk (by omega) (by omega) (KK h2 hL2)
set_option maxHeartbeats 4000000 in
theorem w_rip {g : z_G} {X : z_X} {h : z_H} {ad : Nat → Nat} {i k n : Nat} {r : Nat × Nat × Nat} (hI : aJ ad) (hL : lI h ad) (hi : i + 6 ≤ g_L g) (hN : g_L g ≤ 3072) (hr : 40 ≤ r.1 ∧ k + 6 ≤ r.2.1 ∧ n + 1260 ≤ r.2.2) (KK : ∀ h2, lI h2 ad → z_w g X cL_law RL r 1474 [z_r (g_b g), z_r (ad 0), z_r (lA ad 0), z_i (i : Int)] [] h2 (k + 6) (n + 1260)) : z_w g X cL_law RL r 706 [z_r (g_b g), z_r (ad 0), z_r (lA ad 0), z_i (i : Int)] [] h k n := by
  obtain ⟨⟨fs, hh8⟩, d8, mc, ms, q1, q2, q3, D8⟩ := lq_rip (g := g) hI hL (lx_in g (i + 1))
  refine z_aload_n dL_law_706 rfl ?_
  refine z_aload_n dL_law_707 rfl ?_
  refine z_iload_n dL_law_708 rfl ?_
  refine z_iconst dL_law_709 ?_
  refine z_iadd dL_law_710 ?_
  refine z_xld (m := i + 1) dL_law_711 (by omega) ⟨by omega, by omega⟩ ?_
  refine cs_L_82 dL_law_712 D8 hh8 rfl rfl (Nat.le_of_ble_eq_true rfl) ⟨by omega, by omega, by omega⟩ (fun rv h1 HH => ?_)
  obtain ⟨v, rfl, ⟨fs9, hh9⟩, d9, q4, D9⟩ := HH
  show z_w g X cL_law RL r 715 [z_r (g_b g), z_r (ad 0), z_r (lA ad 0), z_i (i : Int)] [z_i v] h1 (k + mc) (n + ms)
  refine z_aload_n dL_law_715 rfl ?_
  refine z_aload_n dL_law_716 rfl ?_
  refine z_iload_n dL_law_717 rfl ?_
  refine z_iconst dL_law_718 ?_
  refine z_iadd dL_law_719 ?_
  refine z_xld (m := i + 1) dL_law_720 (by omega) ⟨by omega, by omega⟩ ?_
  refine cs_L_85 dL_law_721 D9 hh9 rfl rfl (Nat.le_of_ble_eq_true rfl) ⟨by omega, by omega, by omega⟩ (fun rv2 h2 HH2 => ?_)
  obtain ⟨rfl, hL2⟩ := HH2
  show z_w g X cL_law RL r 724 [z_r (g_b g), z_r (ad 0), z_r (lA ad 0), z_i (i : Int)] [z_i v, z_i v] h2 (k + mc + 0) (n + ms + 0)
  refine z_icmpS dL_law_724 (tgt := 1474) rfl ?_
  exact z_wk (by omega) (by omega) (KK h2 hL2)
set_option maxHeartbeats 4000000 in
theorem w_causes {g : z_G} {X : z_X} {h : z_H} {ad : Nat → Nat} {i k n : Nat} {r : Nat × Nat × Nat} (hI : aJ ad) (hL : lI h ad) (hi : i + 6 ≤ g_L g) (hN : g_L g ≤ 3072) (hr : 40 ≤ r.1 ∧ k + 6 ≤ r.2.1 ∧ n + 1260 ≤ r.2.2) (KK : ∀ h2, lI h2 ad → z_w g X cL_law RL r 1474 [z_r (g_b g), z_r (ad 0), z_r (lA ad 0), z_i (i : Int)] [] h2 (k + 6) (n + 1260)) : z_w g X cL_law RL r 729 [z_r (g_b g), z_r (ad 0), z_r (lA ad 0), z_i (i : Int)] [] h k n := by
  obtain ⟨⟨fs, hh8⟩, d8, mc, ms, q1, q2, q3, D8⟩ := lq_causes (g := g) hI hL
  refine z_aload_n dL_law_729 rfl ?_
  refine cs_L_86 dL_law_730 D8 hh8 rfl rfl (Nat.le_of_ble_eq_true rfl) ⟨by omega, by omega, by omega⟩ (fun rv h1 HH => ?_)
  obtain ⟨v, rfl, ⟨fs9, hh9⟩, d9, q4, D9⟩ := HH
  show z_w g X cL_law RL r 733 [z_r (g_b g), z_r (ad 0), z_r (lA ad 0), z_i (i : Int)] [z_i v] h1 (k + mc) (n + ms)
  refine z_aload_n dL_law_733 rfl ?_
  refine cs_L_89 dL_law_734 D9 hh9 rfl rfl (Nat.le_of_ble_eq_true rfl) ⟨by omega, by omega, by omega⟩ (fun rv2 h2 HH2 => ?_)
  obtain ⟨rfl, hL2⟩ := HH2
  show z_w g X cL_law RL r 737 [z_r (g_b g), z_r (ad 0), z_r (lA ad 0), z_i (i : Int)] [z_i v, z_i v] h2 (k + mc + 0) (n + ms + 0)
  refine z_icmpS dL_law_737 (tgt := 1474) rfl ?_
  exact z_wk (by omega) (by omega) (KK h2 hL2)
set_option maxHeartbeats 4000000 in
theorem w_why {g : z_G} {X : z_X} {h : z_H} {ad : Nat → Nat} {i k n : Nat} {r : Nat × Nat × Nat} (hI : aJ ad) (hL : lI h ad) (hi : i + 6 ≤ g_L g) (hN : g_L g ≤ 3072) (hr : 40 ≤ r.1 ∧ k + 6 ≤ r.2.1 ∧ n + 1260 ≤ r.2.2) (KK : ∀ h2, lI h2 ad → z_w g X cL_law RL r 1474 [z_r (g_b g), z_r (ad 0), z_r (lA ad 0), z_i (i : Int)] [] h2 (k + 6) (n + 1260)) : z_w g X cL_law RL r 742 [z_r (g_b g), z_r (ad 0), z_r (lA ad 0), z_i (i : Int)] [] h k n := by
  obtain ⟨⟨fs, hh8⟩, d8, mc, ms, q1, q2, q3, D8⟩ := lq_why (g := g) hI hL (lx_in g (i + 1)) (lx_in g (i + 2))
  refine z_aload_n dL_law_742 rfl ?_
  refine z_aload_n dL_law_743 rfl ?_
  refine z_iload_n dL_law_744 rfl ?_
  refine z_iconst dL_law_745 ?_
  refine z_iadd dL_law_746 ?_
  refine z_xld (m := i + 1) dL_law_747 (by omega) ⟨by omega, by omega⟩ ?_
  refine z_aload_n dL_law_748 rfl ?_
  refine z_iload_n dL_law_749 rfl ?_
  refine z_iconst dL_law_750 ?_
  refine z_iadd dL_law_751 ?_
  refine z_xld (m := i + 2) dL_law_752 (by omega) ⟨by omega, by omega⟩ ?_
  refine cs_L_90 dL_law_753 D8 hh8 rfl rfl (Nat.le_of_ble_eq_true rfl) ⟨by omega, by omega, by omega⟩ (fun rv h1 HH => ?_)
  obtain ⟨v, rfl, ⟨fs9, hh9⟩, d9, q4, D9⟩ := HH
  show z_w g X cL_law RL r 756 [z_r (g_b g), z_r (ad 0), z_r (lA ad 0), z_i (i : Int)] [z_i v] h1 (k + mc) (n + ms)
  refine z_aload_n dL_law_756 rfl ?_
  refine z_aload_n dL_law_757 rfl ?_
  refine z_iload_n dL_law_758 rfl ?_
  refine z_iconst dL_law_759 ?_
  refine z_iadd dL_law_760 ?_
  refine z_xld (m := i + 1) dL_law_761 (by omega) ⟨by omega, by omega⟩ ?_
  refine z_aload_n dL_law_762 rfl ?_
  refine z_iload_n dL_law_763 rfl ?_
  refine z_iconst dL_law_764 ?_
  refine z_iadd dL_law_765 ?_
  refine z_xld (m := i + 2) dL_law_766 (by omega) ⟨by omega, by omega⟩ ?_
  refine cs_L_93 dL_law_767 D9 hh9 rfl rfl (Nat.le_of_ble_eq_true rfl) ⟨by omega, by omega, by omega⟩ (fun rv2 h2 HH2 => ?_)
  obtain ⟨rfl, hL2⟩ := HH2
  show z_w g X cL_law RL r 770 [z_r (g_b g), z_r (ad 0), z_r (lA ad 0), z_i (i : Int)] [z_i v, z_i v] h2 (k + mc + 0) (n + ms + 0)
  refine z_icmpS dL_law_770 (tgt := 1474) rfl ?_
  exact z_wk (by omega) (by omega) (KK h2 hL2)
set_option maxHeartbeats 4000000 in
theorem w_lineOf {g : z_G} {X : z_X} {h : z_H} {ad : Nat → Nat} {i k n : Nat} {r : Nat × Nat × Nat} (hI : aJ ad) (hL : lI h ad) (hi : i + 6 ≤ g_L g) (hN : g_L g ≤ 3072) (hr : 40 ≤ r.1 ∧ k + 6 ≤ r.2.1 ∧ n + 1260 ≤ r.2.2) (KK : ∀ h2, lI h2 ad → z_w g X cL_law RL r 1474 [z_r (g_b g), z_r (ad 0), z_r (lA ad 0), z_i (i : Int)] [] h2 (k + 6) (n + 1260)) : z_w g X cL_law RL r 775 [z_r (g_b g), z_r (ad 0), z_r (lA ad 0), z_i (i : Int)] [] h k n := by
  obtain ⟨⟨fs, hh8⟩, d8, mc, ms, q1, q2, q3, D8⟩ := lq_lineOf (g := g) hI hL (lx_in g (i + 1)) (lx_in g (i + 2))
  refine z_aload_n dL_law_775 rfl ?_
  refine z_aload_n dL_law_776 rfl ?_
  refine z_iload_n dL_law_777 rfl ?_
  refine z_iconst dL_law_778 ?_
  refine z_iadd dL_law_779 ?_
  refine z_xld (m := i + 1) dL_law_780 (by omega) ⟨by omega, by omega⟩ ?_
  refine z_aload_n dL_law_781 rfl ?_
  refine z_iload_n dL_law_782 rfl ?_
  refine z_iconst dL_law_783 ?_
  refine z_iadd dL_law_784 ?_
  refine z_xld (m := i + 2) dL_law_785 (by omega) ⟨by omega, by omega⟩ ?_
  refine cs_L_94 dL_law_786 D8 hh8 rfl rfl (Nat.le_of_ble_eq_true rfl) ⟨by omega, by omega, by omega⟩ (fun rv h1 HH => ?_)
  obtain ⟨v, rfl, ⟨fs9, hh9⟩, d9, q4, D9⟩ := HH
  show z_w g X cL_law RL r 789 [z_r (g_b g), z_r (ad 0), z_r (lA ad 0), z_i (i : Int)] [z_i v] h1 (k + mc) (n + ms)
  refine z_aload_n dL_law_789 rfl ?_
  refine z_aload_n dL_law_790 rfl ?_
  refine z_iload_n dL_law_791 rfl ?_
  refine z_iconst dL_law_792 ?_
  refine z_iadd dL_law_793 ?_
  refine z_xld (m := i + 1) dL_law_794 (by omega) ⟨by omega, by omega⟩ ?_
  refine z_aload_n dL_law_795 rfl ?_
  refine z_iload_n dL_law_796 rfl ?_
  refine z_iconst dL_law_797 ?_
  refine z_iadd dL_law_798 ?_
  refine z_xld (m := i + 2) dL_law_799 (by omega) ⟨by omega, by omega⟩ ?_
  refine cs_L_97 dL_law_800 D9 hh9 rfl rfl (Nat.le_of_ble_eq_true rfl) ⟨by omega, by omega, by omega⟩ (fun rv2 h2 HH2 => ?_)
  obtain ⟨rfl, hL2⟩ := HH2
  show z_w g X cL_law RL r 803 [z_r (g_b g), z_r (ad 0), z_r (lA ad 0), z_i (i : Int)] [z_i v, z_i v] h2 (k + mc + 0) (n + ms + 0)
  refine z_icmpS dL_law_803 (tgt := 1474) rfl ?_
  exact z_wk (by omega) (by omega) (KK h2 hL2)
set_option maxHeartbeats 4000000 in
theorem w_text {g : z_G} {X : z_X} {h : z_H} {ad : Nat → Nat} {i k n : Nat} {r : Nat × Nat × Nat} (hI : aJ ad) (hL : lI h ad) (hi : i + 6 ≤ g_L g) (hN : g_L g ≤ 3072) (hr : 40 ≤ r.1 ∧ k + 6 ≤ r.2.1 ∧ n + 1260 ≤ r.2.2) (KK : ∀ h2, lI h2 ad → z_w g X cL_law RL r 1474 [z_r (g_b g), z_r (ad 0), z_r (lA ad 0), z_i (i : Int)] [] h2 (k + 6) (n + 1260)) : z_w g X cL_law RL r 808 [z_r (g_b g), z_r (ad 0), z_r (lA ad 0), z_i (i : Int)] [] h k n := by
  obtain ⟨⟨fs, hh8⟩, d8, mc, ms, q1, q2, q3, D8⟩ := lq_text (g := g) hI hL (lx_in g (i + 1)) (lx_in g (i + 2))
  refine z_aload_n dL_law_808 rfl ?_
  refine z_aload_n dL_law_809 rfl ?_
  refine z_iload_n dL_law_810 rfl ?_
  refine z_iconst dL_law_811 ?_
  refine z_iadd dL_law_812 ?_
  refine z_xld (m := i + 1) dL_law_813 (by omega) ⟨by omega, by omega⟩ ?_
  refine z_aload_n dL_law_814 rfl ?_
  refine z_iload_n dL_law_815 rfl ?_
  refine z_iconst dL_law_816 ?_
  refine z_iadd dL_law_817 ?_
  refine z_xld (m := i + 2) dL_law_818 (by omega) ⟨by omega, by omega⟩ ?_
  refine cs_L_98 dL_law_819 D8 hh8 rfl rfl (Nat.le_of_ble_eq_true rfl) ⟨by omega, by omega, by omega⟩ (fun rv h1 HH => ?_)
  obtain ⟨v, rfl, ⟨fs9, hh9⟩, d9, q4, D9⟩ := HH
  show z_w g X cL_law RL r 822 [z_r (g_b g), z_r (ad 0), z_r (lA ad 0), z_i (i : Int)] [z_i v] h1 (k + mc) (n + ms)
  refine z_aload_n dL_law_822 rfl ?_
  refine z_aload_n dL_law_823 rfl ?_
  refine z_iload_n dL_law_824 rfl ?_
  refine z_iconst dL_law_825 ?_
  refine z_iadd dL_law_826 ?_
  refine z_xld (m := i + 1) dL_law_827 (by omega) ⟨by omega, by omega⟩ ?_
  refine z_aload_n dL_law_828 rfl ?_
  refine z_iload_n dL_law_829 rfl ?_
  refine z_iconst dL_law_830 ?_
  refine z_iadd dL_law_831 ?_
  refine z_xld (m := i + 2) dL_law_832 (by omega) ⟨by omega, by omega⟩ ?_
  refine cs_L_101 dL_law_833 D9 hh9 rfl rfl (Nat.le_of_ble_eq_true rfl) ⟨by omega, by omega, by omega⟩ (fun rv2 h2 HH2 => ?_)
  obtain ⟨rfl, hL2⟩ := HH2
  show z_w g X cL_law RL r 836 [z_r (g_b g), z_r (ad 0), z_r (lA ad 0), z_i (i : Int)] [z_i v, z_i v] h2 (k + mc + 0) (n + ms + 0)
  refine z_icmpS dL_law_836 (tgt := 1474) rfl ?_
  exact z_wk (by omega) (by omega) (KK h2 hL2)
set_option maxHeartbeats 4000000 in
theorem w_would {g : z_G} {X : z_X} {h : z_H} {ad : Nat → Nat} {i k n : Nat} {r : Nat × Nat × Nat} (hI : aJ ad) (hL : lI h ad) (hi : i + 6 ≤ g_L g) (hN : g_L g ≤ 3072) (hr : 40 ≤ r.1 ∧ k + 6 ≤ r.2.1 ∧ n + 1260 ≤ r.2.2) (KK : ∀ h2, lI h2 ad → z_w g X cL_law RL r 1474 [z_r (g_b g), z_r (ad 0), z_r (lA ad 0), z_i (i : Int)] [] h2 (k + 6) (n + 1260)) : z_w g X cL_law RL r 841 [z_r (g_b g), z_r (ad 0), z_r (lA ad 0), z_i (i : Int)] [] h k n := by
  obtain ⟨⟨fs, hh8⟩, d8, mc, ms, q1, q2, q3, D8⟩ := lq_would (g := g) hI hL (lx_in g (i + 1)) (lx_in g (i + 2)) (lx_in g (i + 3))
  refine z_aload_n dL_law_841 rfl ?_
  refine z_aload_n dL_law_842 rfl ?_
  refine z_iload_n dL_law_843 rfl ?_
  refine z_iconst dL_law_844 ?_
  refine z_iadd dL_law_845 ?_
  refine z_xld (m := i + 1) dL_law_846 (by omega) ⟨by omega, by omega⟩ ?_
  refine z_aload_n dL_law_847 rfl ?_
  refine z_iload_n dL_law_848 rfl ?_
  refine z_iconst dL_law_849 ?_
  refine z_iadd dL_law_850 ?_
  refine z_xld (m := i + 2) dL_law_851 (by omega) ⟨by omega, by omega⟩ ?_
  refine z_aload_n dL_law_852 rfl ?_
  refine z_iload_n dL_law_853 rfl ?_
  refine z_iconst dL_law_854 ?_
  refine z_iadd dL_law_855 ?_
  refine z_xld (m := i + 3) dL_law_856 (by omega) ⟨by omega, by omega⟩ ?_
  refine cs_L_102 dL_law_857 D8 hh8 rfl rfl (Nat.le_of_ble_eq_true rfl) ⟨by omega, by omega, by omega⟩ (fun rv h1 HH => ?_)
  obtain ⟨v, rfl, ⟨fs9, hh9⟩, d9, q4, D9⟩ := HH
  show z_w g X cL_law RL r 860 [z_r (g_b g), z_r (ad 0), z_r (lA ad 0), z_i (i : Int)] [z_i v] h1 (k + mc) (n + ms)
  refine z_aload_n dL_law_860 rfl ?_
  refine z_aload_n dL_law_861 rfl ?_
  refine z_iload_n dL_law_862 rfl ?_
  refine z_iconst dL_law_863 ?_
  refine z_iadd dL_law_864 ?_
  refine z_xld (m := i + 1) dL_law_865 (by omega) ⟨by omega, by omega⟩ ?_
  refine z_aload_n dL_law_866 rfl ?_
  refine z_iload_n dL_law_867 rfl ?_
  refine z_iconst dL_law_868 ?_
  refine z_iadd dL_law_869 ?_
  refine z_xld (m := i + 2) dL_law_870 (by omega) ⟨by omega, by omega⟩ ?_
  refine z_aload_n dL_law_871 rfl ?_
  refine z_iload_n dL_law_872 rfl ?_
  refine z_iconst dL_law_873 ?_
  refine z_iadd dL_law_874 ?_
  refine z_xld (m := i + 3) dL_law_875 (by omega) ⟨by omega, by omega⟩ ?_
  refine cs_L_105 dL_law_876 D9 hh9 rfl rfl (Nat.le_of_ble_eq_true rfl) ⟨by omega, by omega, by omega⟩ (fun rv2 h2 HH2 => ?_)
  obtain ⟨rfl, hL2⟩ := HH2
  show z_w g X cL_law RL r 879 [z_r (g_b g), z_r (ad 0), z_r (lA ad 0), z_i (i : Int)] [z_i v, z_i v] h2 (k + mc + 0) (n + ms + 0)
  refine z_icmpS dL_law_879 (tgt := 1474) rfl ?_
  exact z_wk (by omega) (by omega) (KK h2 hL2)
set_option maxHeartbeats 4000000 in
theorem w_hitch {g : z_G} {X : z_X} {h : z_H} {ad : Nat → Nat} {i k n : Nat} {r : Nat × Nat × Nat} (hI : aJ ad) (hL : lI h ad) (hi : i + 6 ≤ g_L g) (hN : g_L g ≤ 3072) (hr : 40 ≤ r.1 ∧ k + 6 ≤ r.2.1 ∧ n + 1260 ≤ r.2.2) (KK : ∀ h2, lI h2 ad → z_w g X cL_law RL r 1474 [z_r (g_b g), z_r (ad 0), z_r (lA ad 0), z_i (i : Int)] [] h2 (k + 6) (n + 1260)) : z_w g X cL_law RL r 884 [z_r (g_b g), z_r (ad 0), z_r (lA ad 0), z_i (i : Int)] [] h k n := by
  obtain ⟨⟨fs, hh8⟩, d8, mc, ms, q1, q2, q3, D8⟩ := lq_hitch (g := g) hI hL (lx_in g (i + 1)) (lx_in g (i + 2))
  refine z_aload_n dL_law_884 rfl ?_
  refine z_aload_n dL_law_885 rfl ?_
  refine z_iload_n dL_law_886 rfl ?_
  refine z_iconst dL_law_887 ?_
  refine z_iadd dL_law_888 ?_
  refine z_xld (m := i + 1) dL_law_889 (by omega) ⟨by omega, by omega⟩ ?_
  refine z_aload_n dL_law_890 rfl ?_
  refine z_iload_n dL_law_891 rfl ?_
  refine z_iconst dL_law_892 ?_
  refine z_iadd dL_law_893 ?_
  refine z_xld (m := i + 2) dL_law_894 (by omega) ⟨by omega, by omega⟩ ?_
  refine cs_L_106 dL_law_895 D8 hh8 rfl rfl (Nat.le_of_ble_eq_true rfl) ⟨by omega, by omega, by omega⟩ (fun rv h1 HH => ?_)
  obtain ⟨v, rfl, ⟨fs9, hh9⟩, d9, q4, D9⟩ := HH
  show z_w g X cL_law RL r 898 [z_r (g_b g), z_r (ad 0), z_r (lA ad 0), z_i (i : Int)] [z_i v] h1 (k + mc) (n + ms)
  refine z_aload_n dL_law_898 rfl ?_
  refine z_aload_n dL_law_899 rfl ?_
  refine z_iload_n dL_law_900 rfl ?_
  refine z_iconst dL_law_901 ?_
  refine z_iadd dL_law_902 ?_
  refine z_xld (m := i + 1) dL_law_903 (by omega) ⟨by omega, by omega⟩ ?_
  refine z_aload_n dL_law_904 rfl ?_
  refine z_iload_n dL_law_905 rfl ?_
  refine z_iconst dL_law_906 ?_
  refine z_iadd dL_law_907 ?_
  refine z_xld (m := i + 2) dL_law_908 (by omega) ⟨by omega, by omega⟩ ?_
  refine cs_L_109 dL_law_909 D9 hh9 rfl rfl (Nat.le_of_ble_eq_true rfl) ⟨by omega, by omega, by omega⟩ (fun rv2 h2 HH2 => ?_)
  obtain ⟨rfl, hL2⟩ := HH2
  show z_w g X cL_law RL r 912 [z_r (g_b g), z_r (ad 0), z_r (lA ad 0), z_i (i : Int)] [z_i v, z_i v] h2 (k + mc + 0) (n + ms + 0)
  refine z_icmpS dL_law_912 (tgt := 1474) rfl ?_
  exact z_wk (by omega) (by omega) (KK h2 hL2)
set_option maxHeartbeats 4000000 in
theorem w_fits {g : z_G} {X : z_X} {h : z_H} {ad : Nat → Nat} {i k n : Nat} {r : Nat × Nat × Nat} (hI : aJ ad) (hL : lI h ad) (hi : i + 6 ≤ g_L g) (hN : g_L g ≤ 3072) (hr : 40 ≤ r.1 ∧ k + 6 ≤ r.2.1 ∧ n + 1260 ≤ r.2.2) (KK : ∀ h2, lI h2 ad → z_w g X cL_law RL r 1474 [z_r (g_b g), z_r (ad 0), z_r (lA ad 0), z_i (i : Int)] [] h2 (k + 6) (n + 1260)) : z_w g X cL_law RL r 917 [z_r (g_b g), z_r (ad 0), z_r (lA ad 0), z_i (i : Int)] [] h k n := by
  obtain ⟨⟨fs, hh8⟩, d8, mc, ms, q1, q2, q3, D8⟩ := lq_fits (g := g) hI hL (lx_in g (i + 1))
  refine z_aload_n dL_law_917 rfl ?_
  refine z_aload_n dL_law_918 rfl ?_
  refine z_iload_n dL_law_919 rfl ?_
  refine z_iconst dL_law_920 ?_
  refine z_iadd dL_law_921 ?_
  refine z_xld (m := i + 1) dL_law_922 (by omega) ⟨by omega, by omega⟩ ?_
  refine cs_L_110 dL_law_923 D8 hh8 rfl rfl (Nat.le_of_ble_eq_true rfl) ⟨by omega, by omega, by omega⟩ (fun rv h1 HH => ?_)
  obtain ⟨v, rfl, ⟨fs9, hh9⟩, d9, q4, D9⟩ := HH
  show z_w g X cL_law RL r 926 [z_r (g_b g), z_r (ad 0), z_r (lA ad 0), z_i (i : Int)] [z_l v] h1 (k + mc) (n + ms)
  refine z_aload_n dL_law_926 rfl ?_
  refine z_aload_n dL_law_927 rfl ?_
  refine z_iload_n dL_law_928 rfl ?_
  refine z_iconst dL_law_929 ?_
  refine z_iadd dL_law_930 ?_
  refine z_xld (m := i + 1) dL_law_931 (by omega) ⟨by omega, by omega⟩ ?_
  refine cs_L_114 dL_law_932 D9 hh9 rfl rfl (Nat.le_of_ble_eq_true rfl) ⟨by omega, by omega, by omega⟩ (fun rv2 h2 HH2 => ?_)
  obtain ⟨rfl, hL2⟩ := HH2
  show z_w g X cL_law RL r 935 [z_r (g_b g), z_r (ad 0), z_r (lA ad 0), z_i (i : Int)] [z_l v, z_l v] h2 (k + mc + 0) (n + ms + 0)
  refine z_lcmpS dL_law_935 ?_
  refine z_if_eq dL_law_936 (tgt := 1474) rfl (by decide) (fun _ => ?_) (fun q => absurd rfl q)
  exact z_wk (by omega) (by omega) (KK h2 hL2)
set_option maxHeartbeats 4000000 in
theorem w_least {g : z_G} {X : z_X} {h : z_H} {ad : Nat → Nat} {i k n : Nat} {r : Nat × Nat × Nat} (hI : aJ ad) (hL : lI h ad) (hi : i + 6 ≤ g_L g) (hN : g_L g ≤ 3072) (hr : 40 ≤ r.1 ∧ k + 6 ≤ r.2.1 ∧ n + 1260 ≤ r.2.2) (KK : ∀ h2, lI h2 ad → z_w g X cL_law RL r 1474 [z_r (g_b g), z_r (ad 0), z_r (lA ad 0), z_i (i : Int)] [] h2 (k + 6) (n + 1260)) : z_w g X cL_law RL r 941 [z_r (g_b g), z_r (ad 0), z_r (lA ad 0), z_i (i : Int)] [] h k n := by
  obtain ⟨⟨fs, hh8⟩, d8, mc, ms, q1, q2, q3, D8⟩ := lq_least (g := g) hI hL
  refine z_aload_n dL_law_941 rfl ?_
  refine cs_L_115 dL_law_942 D8 hh8 rfl rfl (Nat.le_of_ble_eq_true rfl) ⟨by omega, by omega, by omega⟩ (fun rv h1 HH => ?_)
  obtain ⟨v, rfl, ⟨fs9, hh9⟩, d9, q4, D9⟩ := HH
  show z_w g X cL_law RL r 945 [z_r (g_b g), z_r (ad 0), z_r (lA ad 0), z_i (i : Int)] [z_i v] h1 (k + mc) (n + ms)
  refine z_aload_n dL_law_945 rfl ?_
  refine cs_L_118 dL_law_946 D9 hh9 rfl rfl (Nat.le_of_ble_eq_true rfl) ⟨by omega, by omega, by omega⟩ (fun rv2 h2 HH2 => ?_)
  obtain ⟨rfl, hL2⟩ := HH2
  show z_w g X cL_law RL r 949 [z_r (g_b g), z_r (ad 0), z_r (lA ad 0), z_i (i : Int)] [z_i v, z_i v] h2 (k + mc + 0) (n + ms + 0)
  refine z_icmpS dL_law_949 (tgt := 1474) rfl ?_
  exact z_wk (by omega) (by omega) (KK h2 hL2)
set_option maxHeartbeats 4000000 in
theorem w_times {g : z_G} {X : z_X} {h : z_H} {ad : Nat → Nat} {i k n : Nat} {r : Nat × Nat × Nat} (hI : aJ ad) (hL : lI h ad) (hi : i + 6 ≤ g_L g) (hN : g_L g ≤ 3072) (hr : 40 ≤ r.1 ∧ k + 6 ≤ r.2.1 ∧ n + 1260 ≤ r.2.2) (KK : ∀ h2, lI h2 ad → z_w g X cL_law RL r 1474 [z_r (g_b g), z_r (ad 0), z_r (lA ad 0), z_i (i : Int)] [] h2 (k + 6) (n + 1260)) : z_w g X cL_law RL r 954 [z_r (g_b g), z_r (ad 0), z_r (lA ad 0), z_i (i : Int)] [] h k n := by
  obtain ⟨⟨fs, hh8⟩, d8, mc, ms, q1, q2, q3, D8⟩ := lq_times (g := g) hI hL (lx_in g (i + 1)) (lx_in g (i + 2))
  refine z_aload_n dL_law_954 rfl ?_
  refine z_aload_n dL_law_955 rfl ?_
  refine z_iload_n dL_law_956 rfl ?_
  refine z_iconst dL_law_957 ?_
  refine z_iadd dL_law_958 ?_
  refine z_xld (m := i + 1) dL_law_959 (by omega) ⟨by omega, by omega⟩ ?_
  refine z_aload_n dL_law_960 rfl ?_
  refine z_iload_n dL_law_961 rfl ?_
  refine z_iconst dL_law_962 ?_
  refine z_iadd dL_law_963 ?_
  refine z_xld (m := i + 2) dL_law_964 (by omega) ⟨by omega, by omega⟩ ?_
  refine cs_L_119 dL_law_965 D8 hh8 rfl rfl (Nat.le_of_ble_eq_true rfl) ⟨by omega, by omega, by omega⟩ (fun rv h1 HH => ?_)
  obtain ⟨v, rfl, ⟨fs9, hh9⟩, d9, q4, D9⟩ := HH
  show z_w g X cL_law RL r 968 [z_r (g_b g), z_r (ad 0), z_r (lA ad 0), z_i (i : Int)] [z_i v] h1 (k + mc) (n + ms)
  refine z_aload_n dL_law_968 rfl ?_
  refine z_aload_n dL_law_969 rfl ?_
  refine z_iload_n dL_law_970 rfl ?_
  refine z_iconst dL_law_971 ?_
  refine z_iadd dL_law_972 ?_
  refine z_xld (m := i + 1) dL_law_973 (by omega) ⟨by omega, by omega⟩ ?_
  refine z_aload_n dL_law_974 rfl ?_
  refine z_iload_n dL_law_975 rfl ?_
  refine z_iconst dL_law_976 ?_
  refine z_iadd dL_law_977 ?_
  refine z_xld (m := i + 2) dL_law_978 (by omega) ⟨by omega, by omega⟩ ?_
  refine cs_L_122 dL_law_979 D9 hh9 rfl rfl (Nat.le_of_ble_eq_true rfl) ⟨by omega, by omega, by omega⟩ (fun rv2 h2 HH2 => ?_)
  obtain ⟨rfl, hL2⟩ := HH2
  show z_w g X cL_law RL r 982 [z_r (g_b g), z_r (ad 0), z_r (lA ad 0), z_i (i : Int)] [z_i v, z_i v] h2 (k + mc + 0) (n + ms + 0)
  refine z_icmpS dL_law_982 (tgt := 1474) rfl ?_
  exact z_wk (by omega) (by omega) (KK h2 hL2)
set_option maxHeartbeats 4000000 in
theorem w_workedOf {g : z_G} {X : z_X} {h : z_H} {ad : Nat → Nat} {i k n : Nat} {r : Nat × Nat × Nat} (hI : aJ ad) (hL : lI h ad) (hi : i + 6 ≤ g_L g) (hN : g_L g ≤ 3072) (hr : 40 ≤ r.1 ∧ k + 6 ≤ r.2.1 ∧ n + 1260 ≤ r.2.2) (KK : ∀ h2, lI h2 ad → z_w g X cL_law RL r 1474 [z_r (g_b g), z_r (ad 0), z_r (lA ad 0), z_i (i : Int)] [] h2 (k + 6) (n + 1260)) : z_w g X cL_law RL r 987 [z_r (g_b g), z_r (ad 0), z_r (lA ad 0), z_i (i : Int)] [] h k n := by
  obtain ⟨⟨fs, hh8⟩, d8, mc, ms, q1, q2, q3, D8⟩ := lq_workedOf (g := g) hI hL (lx_in g (i + 1)) (lx_in g (i + 2))
  refine z_aload_n dL_law_987 rfl ?_
  refine z_aload_n dL_law_988 rfl ?_
  refine z_iload_n dL_law_989 rfl ?_
  refine z_iconst dL_law_990 ?_
  refine z_iadd dL_law_991 ?_
  refine z_xld (m := i + 1) dL_law_992 (by omega) ⟨by omega, by omega⟩ ?_
  refine z_aload_n dL_law_993 rfl ?_
  refine z_iload_n dL_law_994 rfl ?_
  refine z_iconst dL_law_995 ?_
  refine z_iadd dL_law_996 ?_
  refine z_xld (m := i + 2) dL_law_997 (by omega) ⟨by omega, by omega⟩ ?_
  refine cs_L_123 dL_law_998 D8 hh8 rfl rfl (Nat.le_of_ble_eq_true rfl) ⟨by omega, by omega, by omega⟩ (fun rv h1 HH => ?_)
  obtain ⟨v, rfl, ⟨fs9, hh9⟩, d9, q4, D9⟩ := HH
  show z_w g X cL_law RL r 1001 [z_r (g_b g), z_r (ad 0), z_r (lA ad 0), z_i (i : Int)] [z_i v] h1 (k + mc) (n + ms)
  refine z_aload_n dL_law_1001 rfl ?_
  refine z_aload_n dL_law_1002 rfl ?_
  refine z_iload_n dL_law_1003 rfl ?_
  refine z_iconst dL_law_1004 ?_
  refine z_iadd dL_law_1005 ?_
  refine z_xld (m := i + 1) dL_law_1006 (by omega) ⟨by omega, by omega⟩ ?_
  refine z_aload_n dL_law_1007 rfl ?_
  refine z_iload_n dL_law_1008 rfl ?_
  refine z_iconst dL_law_1009 ?_
  refine z_iadd dL_law_1010 ?_
  refine z_xld (m := i + 2) dL_law_1011 (by omega) ⟨by omega, by omega⟩ ?_
  refine cs_L_126 dL_law_1012 D9 hh9 rfl rfl (Nat.le_of_ble_eq_true rfl) ⟨by omega, by omega, by omega⟩ (fun rv2 h2 HH2 => ?_)
  obtain ⟨rfl, hL2⟩ := HH2
  show z_w g X cL_law RL r 1015 [z_r (g_b g), z_r (ad 0), z_r (lA ad 0), z_i (i : Int)] [z_i v, z_i v] h2 (k + mc + 0) (n + ms + 0)
  refine z_icmpS dL_law_1015 (tgt := 1474) rfl ?_
  exact z_wk (by omega) (by omega) (KK h2 hL2)
set_option maxHeartbeats 4000000 in
theorem w_stitch {g : z_G} {X : z_X} {h : z_H} {ad : Nat → Nat} {i k n : Nat} {r : Nat × Nat × Nat} (hI : aJ ad) (hL : lI h ad) (hi : i + 6 ≤ g_L g) (hN : g_L g ≤ 3072) (hr : 40 ≤ r.1 ∧ k + 6 ≤ r.2.1 ∧ n + 1260 ≤ r.2.2) (KK : ∀ h2, lI h2 ad → z_w g X cL_law RL r 1474 [z_r (g_b g), z_r (ad 0), z_r (lA ad 0), z_i (i : Int)] [] h2 (k + 6) (n + 1260)) : z_w g X cL_law RL r 1020 [z_r (g_b g), z_r (ad 0), z_r (lA ad 0), z_i (i : Int)] [] h k n := by
  obtain ⟨⟨fs, hh8⟩, d8, mc, ms, q1, q2, q3, D8⟩ := lq_stitch (g := g) hI hL (lx_in g (i + 1)) (lx_in g (i + 2)) (lx_in g (i + 3))
  refine z_aload_n dL_law_1020 rfl ?_
  refine z_aload_n dL_law_1021 rfl ?_
  refine z_iload_n dL_law_1022 rfl ?_
  refine z_iconst dL_law_1023 ?_
  refine z_iadd dL_law_1024 ?_
  refine z_xld (m := i + 1) dL_law_1025 (by omega) ⟨by omega, by omega⟩ ?_
  refine z_aload_n dL_law_1026 rfl ?_
  refine z_iload_n dL_law_1027 rfl ?_
  refine z_iconst dL_law_1028 ?_
  refine z_iadd dL_law_1029 ?_
  refine z_xld (m := i + 2) dL_law_1030 (by omega) ⟨by omega, by omega⟩ ?_
  refine z_aload_n dL_law_1031 rfl ?_
  refine z_iload_n dL_law_1032 rfl ?_
  refine z_iconst dL_law_1033 ?_
  refine z_iadd dL_law_1034 ?_
  refine z_xld (m := i + 3) dL_law_1035 (by omega) ⟨by omega, by omega⟩ ?_
  refine cs_L_127 dL_law_1036 D8 hh8 rfl rfl (Nat.le_of_ble_eq_true rfl) ⟨by omega, by omega, by omega⟩ (fun rv h1 HH => ?_)
  obtain ⟨v, rfl, ⟨fs9, hh9⟩, d9, q4, D9⟩ := HH
  show z_w g X cL_law RL r 1039 [z_r (g_b g), z_r (ad 0), z_r (lA ad 0), z_i (i : Int)] [z_i v] h1 (k + mc) (n + ms)
  refine z_aload_n dL_law_1039 rfl ?_
  refine z_aload_n dL_law_1040 rfl ?_
  refine z_iload_n dL_law_1041 rfl ?_
  refine z_iconst dL_law_1042 ?_
  refine z_iadd dL_law_1043 ?_
  refine z_xld (m := i + 1) dL_law_1044 (by omega) ⟨by omega, by omega⟩ ?_
  refine z_aload_n dL_law_1045 rfl ?_
  refine z_iload_n dL_law_1046 rfl ?_
  refine z_iconst dL_law_1047 ?_
  refine z_iadd dL_law_1048 ?_
  refine z_xld (m := i + 2) dL_law_1049 (by omega) ⟨by omega, by omega⟩ ?_
  refine z_aload_n dL_law_1050 rfl ?_
  refine z_iload_n dL_law_1051 rfl ?_
  refine z_iconst dL_law_1052 ?_
  refine z_iadd dL_law_1053 ?_
  refine z_xld (m := i + 3) dL_law_1054 (by omega) ⟨by omega, by omega⟩ ?_
  refine cs_L_130 dL_law_1055 D9 hh9 rfl rfl (Nat.le_of_ble_eq_true rfl) ⟨by omega, by omega, by omega⟩ (fun rv2 h2 HH2 => ?_)
  obtain ⟨rfl, hL2⟩ := HH2
  show z_w g X cL_law RL r 1058 [z_r (g_b g), z_r (ad 0), z_r (lA ad 0), z_i (i : Int)] [z_i v, z_i v] h2 (k + mc + 0) (n + ms + 0)
  refine z_icmpS dL_law_1058 (tgt := 1474) rfl ?_
  exact z_wk (by omega) (by omega) (KK h2 hL2)
set_option maxHeartbeats 4000000 in
theorem w_chart {g : z_G} {X : z_X} {h : z_H} {ad : Nat → Nat} {i k n : Nat} {r : Nat × Nat × Nat} (hI : aJ ad) (hL : lI h ad) (hi : i + 6 ≤ g_L g) (hN : g_L g ≤ 3072) (hr : 40 ≤ r.1 ∧ k + 6 ≤ r.2.1 ∧ n + 1260 ≤ r.2.2) (KK : ∀ h2, lI h2 ad → z_w g X cL_law RL r 1474 [z_r (g_b g), z_r (ad 0), z_r (lA ad 0), z_i (i : Int)] [] h2 (k + 6) (n + 1260)) : z_w g X cL_law RL r 1063 [z_r (g_b g), z_r (ad 0), z_r (lA ad 0), z_i (i : Int)] [] h k n := by
  obtain ⟨⟨fs, hh8⟩, d8, mc, ms, q1, q2, q3, D8⟩ := lq_chart (g := g) hI hL (lx_in g (i + 1)) (lx_in g (i + 2))
  refine z_aload_n dL_law_1063 rfl ?_
  refine z_aload_n dL_law_1064 rfl ?_
  refine z_iload_n dL_law_1065 rfl ?_
  refine z_iconst dL_law_1066 ?_
  refine z_iadd dL_law_1067 ?_
  refine z_xld (m := i + 1) dL_law_1068 (by omega) ⟨by omega, by omega⟩ ?_
  refine z_aload_n dL_law_1069 rfl ?_
  refine z_iload_n dL_law_1070 rfl ?_
  refine z_iconst dL_law_1071 ?_
  refine z_iadd dL_law_1072 ?_
  refine z_xld (m := i + 2) dL_law_1073 (by omega) ⟨by omega, by omega⟩ ?_
  refine cs_L_131 dL_law_1074 D8 hh8 rfl rfl (Nat.le_of_ble_eq_true rfl) ⟨by omega, by omega, by omega⟩ (fun rv h1 HH => ?_)
  obtain ⟨v, rfl, ⟨fs9, hh9⟩, d9, q4, D9⟩ := HH
  show z_w g X cL_law RL r 1077 [z_r (g_b g), z_r (ad 0), z_r (lA ad 0), z_i (i : Int)] [z_i v] h1 (k + mc) (n + ms)
  refine z_aload_n dL_law_1077 rfl ?_
  refine z_aload_n dL_law_1078 rfl ?_
  refine z_iload_n dL_law_1079 rfl ?_
  refine z_iconst dL_law_1080 ?_
  refine z_iadd dL_law_1081 ?_
  refine z_xld (m := i + 1) dL_law_1082 (by omega) ⟨by omega, by omega⟩ ?_
  refine z_aload_n dL_law_1083 rfl ?_
  refine z_iload_n dL_law_1084 rfl ?_
  refine z_iconst dL_law_1085 ?_
  refine z_iadd dL_law_1086 ?_
  refine z_xld (m := i + 2) dL_law_1087 (by omega) ⟨by omega, by omega⟩ ?_
  refine cs_L_134 dL_law_1088 D9 hh9 rfl rfl (Nat.le_of_ble_eq_true rfl) ⟨by omega, by omega, by omega⟩ (fun rv2 h2 HH2 => ?_)
  obtain ⟨rfl, hL2⟩ := HH2
  show z_w g X cL_law RL r 1091 [z_r (g_b g), z_r (ad 0), z_r (lA ad 0), z_i (i : Int)] [z_i v, z_i v] h2 (k + mc + 0) (n + ms + 0)
  refine z_icmpS dL_law_1091 (tgt := 1474) rfl ?_
  exact z_wk (by omega) (by omega) (KK h2 hL2)
set_option maxHeartbeats 4000000 in
theorem w_shorthand {g : z_G} {X : z_X} {h : z_H} {ad : Nat → Nat} {i k n : Nat} {r : Nat × Nat × Nat} (hI : aJ ad) (hL : lI h ad) (hi : i + 6 ≤ g_L g) (hN : g_L g ≤ 3072) (hr : 40 ≤ r.1 ∧ k + 6 ≤ r.2.1 ∧ n + 1260 ≤ r.2.2) (KK : ∀ h2, lI h2 ad → z_w g X cL_law RL r 1474 [z_r (g_b g), z_r (ad 0), z_r (lA ad 0), z_i (i : Int)] [] h2 (k + 6) (n + 1260)) : z_w g X cL_law RL r 1096 [z_r (g_b g), z_r (ad 0), z_r (lA ad 0), z_i (i : Int)] [] h k n := by
  obtain ⟨⟨fs, hh8⟩, d8, mc, ms, q1, q2, q3, D8⟩ := lq_shorthand (g := g) hI hL (lx_in g (i + 1)) (lx_in g (i + 2))
  refine z_aload_n dL_law_1096 rfl ?_
  refine z_aload_n dL_law_1097 rfl ?_
  refine z_iload_n dL_law_1098 rfl ?_
  refine z_iconst dL_law_1099 ?_
  refine z_iadd dL_law_1100 ?_
  refine z_xld (m := i + 1) dL_law_1101 (by omega) ⟨by omega, by omega⟩ ?_
  refine z_aload_n dL_law_1102 rfl ?_
  refine z_iload_n dL_law_1103 rfl ?_
  refine z_iconst dL_law_1104 ?_
  refine z_iadd dL_law_1105 ?_
  refine z_xld (m := i + 2) dL_law_1106 (by omega) ⟨by omega, by omega⟩ ?_
  refine cs_L_135 dL_law_1107 D8 hh8 rfl rfl (Nat.le_of_ble_eq_true rfl) ⟨by omega, by omega, by omega⟩ (fun rv h1 HH => ?_)
  obtain ⟨v, rfl, ⟨fs9, hh9⟩, d9, q4, D9⟩ := HH
  show z_w g X cL_law RL r 1110 [z_r (g_b g), z_r (ad 0), z_r (lA ad 0), z_i (i : Int)] [z_i v] h1 (k + mc) (n + ms)
  refine z_aload_n dL_law_1110 rfl ?_
  refine z_aload_n dL_law_1111 rfl ?_
  refine z_iload_n dL_law_1112 rfl ?_
  refine z_iconst dL_law_1113 ?_
  refine z_iadd dL_law_1114 ?_
  refine z_xld (m := i + 1) dL_law_1115 (by omega) ⟨by omega, by omega⟩ ?_
  refine z_aload_n dL_law_1116 rfl ?_
  refine z_iload_n dL_law_1117 rfl ?_
  refine z_iconst dL_law_1118 ?_
  refine z_iadd dL_law_1119 ?_
  refine z_xld (m := i + 2) dL_law_1120 (by omega) ⟨by omega, by omega⟩ ?_
  refine cs_L_138 dL_law_1121 D9 hh9 rfl rfl (Nat.le_of_ble_eq_true rfl) ⟨by omega, by omega, by omega⟩ (fun rv2 h2 HH2 => ?_)
  obtain ⟨rfl, hL2⟩ := HH2
  show z_w g X cL_law RL r 1124 [z_r (g_b g), z_r (ad 0), z_r (lA ad 0), z_i (i : Int)] [z_i v, z_i v] h2 (k + mc + 0) (n + ms + 0)
  refine z_icmpS dL_law_1124 (tgt := 1474) rfl ?_
  exact z_wk (by omega) (by omega) (KK h2 hL2)
set_option maxHeartbeats 4000000 in
theorem w_unit {g : z_G} {X : z_X} {h : z_H} {ad : Nat → Nat} {i k n : Nat} {r : Nat × Nat × Nat} (hI : aJ ad) (hL : lI h ad) (hi : i + 6 ≤ g_L g) (hN : g_L g ≤ 3072) (hr : 40 ≤ r.1 ∧ k + 6 ≤ r.2.1 ∧ n + 1260 ≤ r.2.2) (KK : ∀ h2, lI h2 ad → z_w g X cL_law RL r 1474 [z_r (g_b g), z_r (ad 0), z_r (lA ad 0), z_i (i : Int)] [] h2 (k + 6) (n + 1260)) : z_w g X cL_law RL r 1129 [z_r (g_b g), z_r (ad 0), z_r (lA ad 0), z_i (i : Int)] [] h k n := by
  obtain ⟨⟨fs, hh8⟩, d8, mc, ms, q1, q2, q3, D8⟩ := lq_unit (g := g) hI hL (lx_in g (i + 1))
  refine z_aload_n dL_law_1129 rfl ?_
  refine z_aload_n dL_law_1130 rfl ?_
  refine z_iload_n dL_law_1131 rfl ?_
  refine z_iconst dL_law_1132 ?_
  refine z_iadd dL_law_1133 ?_
  refine z_xld (m := i + 1) dL_law_1134 (by omega) ⟨by omega, by omega⟩ ?_
  refine cs_L_139 dL_law_1135 D8 hh8 rfl rfl (Nat.le_of_ble_eq_true rfl) ⟨by omega, by omega, by omega⟩ (fun rv h1 HH => ?_)
  obtain ⟨v, rfl, ⟨fs9, hh9⟩, d9, q4, D9⟩ := HH
  show z_w g X cL_law RL r 1138 [z_r (g_b g), z_r (ad 0), z_r (lA ad 0), z_i (i : Int)] [z_i v] h1 (k + mc) (n + ms)
  refine z_aload_n dL_law_1138 rfl ?_
  refine z_aload_n dL_law_1139 rfl ?_
  refine z_iload_n dL_law_1140 rfl ?_
  refine z_iconst dL_law_1141 ?_
  refine z_iadd dL_law_1142 ?_
  refine z_xld (m := i + 1) dL_law_1143 (by omega) ⟨by omega, by omega⟩ ?_
  refine cs_L_142 dL_law_1144 D9 hh9 rfl rfl (Nat.le_of_ble_eq_true rfl) ⟨by omega, by omega, by omega⟩ (fun rv2 h2 HH2 => ?_)
  obtain ⟨rfl, hL2⟩ := HH2
  show z_w g X cL_law RL r 1147 [z_r (g_b g), z_r (ad 0), z_r (lA ad 0), z_i (i : Int)] [z_i v, z_i v] h2 (k + mc + 0) (n + ms + 0)
  refine z_icmpS dL_law_1147 (tgt := 1474) rfl ?_
  exact z_wk (by omega) (by omega) (KK h2 hL2)
set_option maxHeartbeats 4000000 in
theorem w_mirrored {g : z_G} {X : z_X} {h : z_H} {ad : Nat → Nat} {i k n : Nat} {r : Nat × Nat × Nat} (hI : aJ ad) (hL : lI h ad) (hi : i + 6 ≤ g_L g) (hN : g_L g ≤ 3072) (hr : 40 ≤ r.1 ∧ k + 6 ≤ r.2.1 ∧ n + 1260 ≤ r.2.2) (KK : ∀ h2, lI h2 ad → z_w g X cL_law RL r 1474 [z_r (g_b g), z_r (ad 0), z_r (lA ad 0), z_i (i : Int)] [] h2 (k + 6) (n + 1260)) : z_w g X cL_law RL r 1152 [z_r (g_b g), z_r (ad 0), z_r (lA ad 0), z_i (i : Int)] [] h k n := by
  obtain ⟨⟨fs, hh8⟩, d8, mc, ms, q1, q2, q3, D8⟩ := lq_mirrored (g := g) hI hL (lx_in g (i + 1)) (lx_in g (i + 2))
  refine z_aload_n dL_law_1152 rfl ?_
  refine z_aload_n dL_law_1153 rfl ?_
  refine z_iload_n dL_law_1154 rfl ?_
  refine z_iconst dL_law_1155 ?_
  refine z_iadd dL_law_1156 ?_
  refine z_xld (m := i + 1) dL_law_1157 (by omega) ⟨by omega, by omega⟩ ?_
  refine z_aload_n dL_law_1158 rfl ?_
  refine z_iload_n dL_law_1159 rfl ?_
  refine z_iconst dL_law_1160 ?_
  refine z_iadd dL_law_1161 ?_
  refine z_xld (m := i + 2) dL_law_1162 (by omega) ⟨by omega, by omega⟩ ?_
  refine cs_L_143 dL_law_1163 D8 hh8 rfl rfl (Nat.le_of_ble_eq_true rfl) ⟨by omega, by omega, by omega⟩ (fun rv h1 HH => ?_)
  obtain ⟨v, rfl, ⟨fs9, hh9⟩, d9, q4, D9⟩ := HH
  show z_w g X cL_law RL r 1166 [z_r (g_b g), z_r (ad 0), z_r (lA ad 0), z_i (i : Int)] [z_i v] h1 (k + mc) (n + ms)
  refine z_aload_n dL_law_1166 rfl ?_
  refine z_aload_n dL_law_1167 rfl ?_
  refine z_iload_n dL_law_1168 rfl ?_
  refine z_iconst dL_law_1169 ?_
  refine z_iadd dL_law_1170 ?_
  refine z_xld (m := i + 1) dL_law_1171 (by omega) ⟨by omega, by omega⟩ ?_
  refine z_aload_n dL_law_1172 rfl ?_
  refine z_iload_n dL_law_1173 rfl ?_
  refine z_iconst dL_law_1174 ?_
  refine z_iadd dL_law_1175 ?_
  refine z_xld (m := i + 2) dL_law_1176 (by omega) ⟨by omega, by omega⟩ ?_
  refine cs_L_146 dL_law_1177 D9 hh9 rfl rfl (Nat.le_of_ble_eq_true rfl) ⟨by omega, by omega, by omega⟩ (fun rv2 h2 HH2 => ?_)
  obtain ⟨rfl, hL2⟩ := HH2
  show z_w g X cL_law RL r 1180 [z_r (g_b g), z_r (ad 0), z_r (lA ad 0), z_i (i : Int)] [z_i v, z_i v] h2 (k + mc + 0) (n + ms + 0)
  refine z_icmpS dL_law_1180 (tgt := 1474) rfl ?_
  exact z_wk (by omega) (by omega) (KK h2 hL2)
set_option maxHeartbeats 4000000 in
theorem w_even {g : z_G} {X : z_X} {h : z_H} {ad : Nat → Nat} {i k n : Nat} {r : Nat × Nat × Nat} (hI : aJ ad) (hL : lI h ad) (hi : i + 6 ≤ g_L g) (hN : g_L g ≤ 3072) (hr : 40 ≤ r.1 ∧ k + 6 ≤ r.2.1 ∧ n + 1260 ≤ r.2.2) (KK : ∀ h2, lI h2 ad → z_w g X cL_law RL r 1474 [z_r (g_b g), z_r (ad 0), z_r (lA ad 0), z_i (i : Int)] [] h2 (k + 6) (n + 1260)) : z_w g X cL_law RL r 1185 [z_r (g_b g), z_r (ad 0), z_r (lA ad 0), z_i (i : Int)] [] h k n := by
  obtain ⟨⟨fs, hh8⟩, d8, mc, ms, q1, q2, q3, D8⟩ := lq_even (g := g) hI hL (lx_in g (i + 1))
  refine z_aload_n dL_law_1185 rfl ?_
  refine z_aload_n dL_law_1186 rfl ?_
  refine z_iload_n dL_law_1187 rfl ?_
  refine z_iconst dL_law_1188 ?_
  refine z_iadd dL_law_1189 ?_
  refine z_xld (m := i + 1) dL_law_1190 (by omega) ⟨by omega, by omega⟩ ?_
  refine cs_L_147 dL_law_1191 D8 hh8 rfl rfl (Nat.le_of_ble_eq_true rfl) ⟨by omega, by omega, by omega⟩ (fun rv h1 HH => ?_)
  obtain ⟨v, rfl, ⟨fs9, hh9⟩, d9, q4, D9⟩ := HH
  show z_w g X cL_law RL r 1194 [z_r (g_b g), z_r (ad 0), z_r (lA ad 0), z_i (i : Int)] [z_i v] h1 (k + mc) (n + ms)
  refine z_aload_n dL_law_1194 rfl ?_
  refine z_aload_n dL_law_1195 rfl ?_
  refine z_iload_n dL_law_1196 rfl ?_
  refine z_iconst dL_law_1197 ?_
  refine z_iadd dL_law_1198 ?_
  refine z_xld (m := i + 1) dL_law_1199 (by omega) ⟨by omega, by omega⟩ ?_
  refine cs_L_150 dL_law_1200 D9 hh9 rfl rfl (Nat.le_of_ble_eq_true rfl) ⟨by omega, by omega, by omega⟩ (fun rv2 h2 HH2 => ?_)
  obtain ⟨rfl, hL2⟩ := HH2
  show z_w g X cL_law RL r 1203 [z_r (g_b g), z_r (ad 0), z_r (lA ad 0), z_i (i : Int)] [z_i v, z_i v] h2 (k + mc + 0) (n + ms + 0)
  refine z_icmpS dL_law_1203 (tgt := 1474) rfl ?_
  exact z_wk (by omega) (by omega) (KK h2 hL2)
set_option maxHeartbeats 4000000 in
theorem w_roots {g : z_G} {X : z_X} {h : z_H} {ad : Nat → Nat} {i k n : Nat} {r : Nat × Nat × Nat} (hI : aJ ad) (hL : lI h ad) (hi : i + 6 ≤ g_L g) (hN : g_L g ≤ 3072) (hr : 40 ≤ r.1 ∧ k + 6 ≤ r.2.1 ∧ n + 1260 ≤ r.2.2) (KK : ∀ h2, lI h2 ad → z_w g X cL_law RL r 1474 [z_r (g_b g), z_r (ad 0), z_r (lA ad 0), z_i (i : Int)] [] h2 (k + 6) (n + 1260)) : z_w g X cL_law RL r 1208 [z_r (g_b g), z_r (ad 0), z_r (lA ad 0), z_i (i : Int)] [] h k n := by
  obtain ⟨⟨fs, hh8⟩, d8, mc, ms, q1, q2, q3, D8⟩ := lq_roots (g := g) hI hL (lx_in g (i + 1)) (lx_in g (i + 2))
  refine z_aload_n dL_law_1208 rfl ?_
  refine z_aload_n dL_law_1209 rfl ?_
  refine z_iload_n dL_law_1210 rfl ?_
  refine z_iconst dL_law_1211 ?_
  refine z_iadd dL_law_1212 ?_
  refine z_xld (m := i + 1) dL_law_1213 (by omega) ⟨by omega, by omega⟩ ?_
  refine z_aload_n dL_law_1214 rfl ?_
  refine z_iload_n dL_law_1215 rfl ?_
  refine z_iconst dL_law_1216 ?_
  refine z_iadd dL_law_1217 ?_
  refine z_xld (m := i + 2) dL_law_1218 (by omega) ⟨by omega, by omega⟩ ?_
  refine cs_L_151 dL_law_1219 D8 hh8 rfl rfl (Nat.le_of_ble_eq_true rfl) ⟨by omega, by omega, by omega⟩ (fun rv h1 HH => ?_)
  obtain ⟨v, rfl, ⟨fs9, hh9⟩, d9, q4, D9⟩ := HH
  show z_w g X cL_law RL r 1222 [z_r (g_b g), z_r (ad 0), z_r (lA ad 0), z_i (i : Int)] [z_l v] h1 (k + mc) (n + ms)
  refine z_aload_n dL_law_1222 rfl ?_
  refine z_aload_n dL_law_1223 rfl ?_
  refine z_iload_n dL_law_1224 rfl ?_
  refine z_iconst dL_law_1225 ?_
  refine z_iadd dL_law_1226 ?_
  refine z_xld (m := i + 1) dL_law_1227 (by omega) ⟨by omega, by omega⟩ ?_
  refine z_aload_n dL_law_1228 rfl ?_
  refine z_iload_n dL_law_1229 rfl ?_
  refine z_iconst dL_law_1230 ?_
  refine z_iadd dL_law_1231 ?_
  refine z_xld (m := i + 2) dL_law_1232 (by omega) ⟨by omega, by omega⟩ ?_
  refine cs_L_154 dL_law_1233 D9 hh9 rfl rfl (Nat.le_of_ble_eq_true rfl) ⟨by omega, by omega, by omega⟩ (fun rv2 h2 HH2 => ?_)
  obtain ⟨rfl, hL2⟩ := HH2
  show z_w g X cL_law RL r 1236 [z_r (g_b g), z_r (ad 0), z_r (lA ad 0), z_i (i : Int)] [z_l v, z_l v] h2 (k + mc + 0) (n + ms + 0)
  refine z_lcmpS dL_law_1236 ?_
  refine z_if_eq dL_law_1237 (tgt := 1474) rfl (by decide) (fun _ => ?_) (fun q => absurd rfl q)
  exact z_wk (by omega) (by omega) (KK h2 hL2)
set_option maxHeartbeats 4000000 in
theorem w_origin {g : z_G} {X : z_X} {h : z_H} {ad : Nat → Nat} {i k n : Nat} {r : Nat × Nat × Nat} (hI : aJ ad) (hL : lI h ad) (hi : i + 6 ≤ g_L g) (hN : g_L g ≤ 3072) (hr : 40 ≤ r.1 ∧ k + 6 ≤ r.2.1 ∧ n + 1260 ≤ r.2.2) (KK : ∀ h2, lI h2 ad → z_w g X cL_law RL r 1474 [z_r (g_b g), z_r (ad 0), z_r (lA ad 0), z_i (i : Int)] [] h2 (k + 6) (n + 1260)) : z_w g X cL_law RL r 1242 [z_r (g_b g), z_r (ad 0), z_r (lA ad 0), z_i (i : Int)] [] h k n := by
  obtain ⟨⟨fs, hh8⟩, d8, mc, ms, q1, q2, q3, D8⟩ := lq_origin (g := g) hI hL (lx_in g (i + 1))
  refine z_aload_n dL_law_1242 rfl ?_
  refine z_aload_n dL_law_1243 rfl ?_
  refine z_iload_n dL_law_1244 rfl ?_
  refine z_iconst dL_law_1245 ?_
  refine z_iadd dL_law_1246 ?_
  refine z_xld (m := i + 1) dL_law_1247 (by omega) ⟨by omega, by omega⟩ ?_
  refine cs_L_155 dL_law_1248 D8 hh8 rfl rfl (Nat.le_of_ble_eq_true rfl) ⟨by omega, by omega, by omega⟩ (fun rv h1 HH => ?_)
  obtain ⟨v, rfl, ⟨fs9, hh9⟩, d9, q4, D9⟩ := HH
  show z_w g X cL_law RL r 1251 [z_r (g_b g), z_r (ad 0), z_r (lA ad 0), z_i (i : Int)] [z_l v] h1 (k + mc) (n + ms)
  refine z_aload_n dL_law_1251 rfl ?_
  refine z_aload_n dL_law_1252 rfl ?_
  refine z_iload_n dL_law_1253 rfl ?_
  refine z_iconst dL_law_1254 ?_
  refine z_iadd dL_law_1255 ?_
  refine z_xld (m := i + 1) dL_law_1256 (by omega) ⟨by omega, by omega⟩ ?_
  refine cs_L_158 dL_law_1257 D9 hh9 rfl rfl (Nat.le_of_ble_eq_true rfl) ⟨by omega, by omega, by omega⟩ (fun rv2 h2 HH2 => ?_)
  obtain ⟨rfl, hL2⟩ := HH2
  show z_w g X cL_law RL r 1260 [z_r (g_b g), z_r (ad 0), z_r (lA ad 0), z_i (i : Int)] [z_l v, z_l v] h2 (k + mc + 0) (n + ms + 0)
  refine z_lcmpS dL_law_1260 ?_
  refine z_if_eq dL_law_1261 (tgt := 1474) rfl (by decide) (fun _ => ?_) (fun q => absurd rfl q)
  exact z_wk (by omega) (by omega) (KK h2 hL2)
set_option maxHeartbeats 4000000 in
theorem w_yarn {g : z_G} {X : z_X} {h : z_H} {ad : Nat → Nat} {i k n : Nat} {r : Nat × Nat × Nat} (hI : aJ ad) (hL : lI h ad) (hi : i + 6 ≤ g_L g) (hN : g_L g ≤ 3072) (hr : 40 ≤ r.1 ∧ k + 6 ≤ r.2.1 ∧ n + 1260 ≤ r.2.2) (KK : ∀ h2, lI h2 ad → z_w g X cL_law RL r 1474 [z_r (g_b g), z_r (ad 0), z_r (lA ad 0), z_i (i : Int)] [] h2 (k + 6) (n + 1260)) : z_w g X cL_law RL r 1266 [z_r (g_b g), z_r (ad 0), z_r (lA ad 0), z_i (i : Int)] [] h k n := by
  obtain ⟨⟨fs, hh8⟩, d8, mc, ms, q1, q2, q3, D8⟩ := lq_yarn (g := g) hI hL
  refine z_aload_n dL_law_1266 rfl ?_
  refine cs_L_159 dL_law_1267 D8 hh8 rfl rfl (Nat.le_of_ble_eq_true rfl) ⟨by omega, by omega, by omega⟩ (fun rv h1 HH => ?_)
  obtain ⟨v, rfl, ⟨fs9, hh9⟩, d9, q4, D9⟩ := HH
  show z_w g X cL_law RL r 1270 [z_r (g_b g), z_r (ad 0), z_r (lA ad 0), z_i (i : Int)] [z_l v] h1 (k + mc) (n + ms)
  refine z_aload_n dL_law_1270 rfl ?_
  refine cs_L_163 dL_law_1271 D9 hh9 rfl rfl (Nat.le_of_ble_eq_true rfl) ⟨by omega, by omega, by omega⟩ (fun rv2 h2 HH2 => ?_)
  obtain ⟨rfl, hL2⟩ := HH2
  show z_w g X cL_law RL r 1274 [z_r (g_b g), z_r (ad 0), z_r (lA ad 0), z_i (i : Int)] [z_l v, z_l v] h2 (k + mc + 0) (n + ms + 0)
  refine z_lcmpS dL_law_1274 ?_
  refine z_if_eq dL_law_1275 (tgt := 1474) rfl (by decide) (fun _ => ?_) (fun q => absurd rfl q)
  exact z_wk (by omega) (by omega) (KK h2 hL2)
set_option maxHeartbeats 4000000 in
theorem w_many {g : z_G} {X : z_X} {h : z_H} {ad : Nat → Nat} {i k n : Nat} {r : Nat × Nat × Nat} (hI : aJ ad) (hL : lI h ad) (hi : i + 6 ≤ g_L g) (hN : g_L g ≤ 3072) (hr : 40 ≤ r.1 ∧ k + 6 ≤ r.2.1 ∧ n + 1260 ≤ r.2.2) (KK : ∀ h2, lI h2 ad → z_w g X cL_law RL r 1474 [z_r (g_b g), z_r (ad 0), z_r (lA ad 0), z_i (i : Int)] [] h2 (k + 6) (n + 1260)) : z_w g X cL_law RL r 1280 [z_r (g_b g), z_r (ad 0), z_r (lA ad 0), z_i (i : Int)] [] h k n := by
  obtain ⟨⟨fs, hh8⟩, d8, mc, ms, q1, q2, q3, D8⟩ := lq_many (g := g) hI hL (lx_in g (i + 1))
  refine z_aload_n dL_law_1280 rfl ?_
  refine z_aload_n dL_law_1281 rfl ?_
  refine z_iload_n dL_law_1282 rfl ?_
  refine z_iconst dL_law_1283 ?_
  refine z_iadd dL_law_1284 ?_
  refine z_xld (m := i + 1) dL_law_1285 (by omega) ⟨by omega, by omega⟩ ?_
  refine cs_L_164 dL_law_1286 D8 hh8 rfl rfl (Nat.le_of_ble_eq_true rfl) ⟨by omega, by omega, by omega⟩ (fun rv h1 HH => ?_)
  obtain ⟨v, rfl, ⟨fs9, hh9⟩, d9, q4, D9⟩ := HH
  show z_w g X cL_law RL r 1289 [z_r (g_b g), z_r (ad 0), z_r (lA ad 0), z_i (i : Int)] [z_i v] h1 (k + mc) (n + ms)
  refine z_aload_n dL_law_1289 rfl ?_
  refine z_aload_n dL_law_1290 rfl ?_
  refine z_iload_n dL_law_1291 rfl ?_
  refine z_iconst dL_law_1292 ?_
  refine z_iadd dL_law_1293 ?_
  refine z_xld (m := i + 1) dL_law_1294 (by omega) ⟨by omega, by omega⟩ ?_
  refine cs_L_167 dL_law_1295 D9 hh9 rfl rfl (Nat.le_of_ble_eq_true rfl) ⟨by omega, by omega, by omega⟩ (fun rv2 h2 HH2 => ?_)
  obtain ⟨rfl, hL2⟩ := HH2
  show z_w g X cL_law RL r 1298 [z_r (g_b g), z_r (ad 0), z_r (lA ad 0), z_i (i : Int)] [z_i v, z_i v] h2 (k + mc + 0) (n + ms + 0)
  refine z_icmpS dL_law_1298 (tgt := 1474) rfl ?_
  exact z_wk (by omega) (by omega) (KK h2 hL2)
set_option maxHeartbeats 4000000 in
theorem w_differ {g : z_G} {X : z_X} {h : z_H} {ad : Nat → Nat} {i k n : Nat} {r : Nat × Nat × Nat} (hI : aJ ad) (hL : lI h ad) (hi : i + 6 ≤ g_L g) (hN : g_L g ≤ 3072) (hr : 40 ≤ r.1 ∧ k + 6 ≤ r.2.1 ∧ n + 1260 ≤ r.2.2) (KK : ∀ h2, lI h2 ad → z_w g X cL_law RL r 1474 [z_r (g_b g), z_r (ad 0), z_r (lA ad 0), z_i (i : Int)] [] h2 (k + 6) (n + 1260)) : z_w g X cL_law RL r 1303 [z_r (g_b g), z_r (ad 0), z_r (lA ad 0), z_i (i : Int)] [] h k n := by
  obtain ⟨⟨fs, hh8⟩, d8, mc, ms, q1, q2, q3, D8⟩ := lq_differ (g := g) hI hL (lx_in g (i + 1)) (lx_in g (i + 2))
  refine z_aload_n dL_law_1303 rfl ?_
  refine z_aload_n dL_law_1304 rfl ?_
  refine z_iload_n dL_law_1305 rfl ?_
  refine z_iconst dL_law_1306 ?_
  refine z_iadd dL_law_1307 ?_
  refine z_xld (m := i + 1) dL_law_1308 (by omega) ⟨by omega, by omega⟩ ?_
  refine z_aload_n dL_law_1309 rfl ?_
  refine z_iload_n dL_law_1310 rfl ?_
  refine z_iconst dL_law_1311 ?_
  refine z_iadd dL_law_1312 ?_
  refine z_xld (m := i + 2) dL_law_1313 (by omega) ⟨by omega, by omega⟩ ?_
  refine cs_L_168 dL_law_1314 D8 hh8 rfl rfl (Nat.le_of_ble_eq_true rfl) ⟨by omega, by omega, by omega⟩ (fun rv h1 HH => ?_)
  obtain ⟨v, rfl, ⟨fs9, hh9⟩, d9, q4, D9⟩ := HH
  show z_w g X cL_law RL r 1317 [z_r (g_b g), z_r (ad 0), z_r (lA ad 0), z_i (i : Int)] [z_i v] h1 (k + mc) (n + ms)
  refine z_aload_n dL_law_1317 rfl ?_
  refine z_aload_n dL_law_1318 rfl ?_
  refine z_iload_n dL_law_1319 rfl ?_
  refine z_iconst dL_law_1320 ?_
  refine z_iadd dL_law_1321 ?_
  refine z_xld (m := i + 1) dL_law_1322 (by omega) ⟨by omega, by omega⟩ ?_
  refine z_aload_n dL_law_1323 rfl ?_
  refine z_iload_n dL_law_1324 rfl ?_
  refine z_iconst dL_law_1325 ?_
  refine z_iadd dL_law_1326 ?_
  refine z_xld (m := i + 2) dL_law_1327 (by omega) ⟨by omega, by omega⟩ ?_
  refine cs_L_171 dL_law_1328 D9 hh9 rfl rfl (Nat.le_of_ble_eq_true rfl) ⟨by omega, by omega, by omega⟩ (fun rv2 h2 HH2 => ?_)
  obtain ⟨rfl, hL2⟩ := HH2
  show z_w g X cL_law RL r 1331 [z_r (g_b g), z_r (ad 0), z_r (lA ad 0), z_i (i : Int)] [z_i v, z_i v] h2 (k + mc + 0) (n + ms + 0)
  refine z_icmpS dL_law_1331 (tgt := 1474) rfl ?_
  exact z_wk (by omega) (by omega) (KK h2 hL2)
set_option maxHeartbeats 4000000 in
theorem w_judge {g : z_G} {X : z_X} {h : z_H} {ad : Nat → Nat} {i k n : Nat} {r : Nat × Nat × Nat} (hI : aJ ad) (hL : lI h ad) (hi : i + 6 ≤ g_L g) (hN : g_L g ≤ 3072) (hr : 40 ≤ r.1 ∧ k + 6 ≤ r.2.1 ∧ n + 1260 ≤ r.2.2) (KK : ∀ h2, lI h2 ad → z_w g X cL_law RL r 1474 [z_r (g_b g), z_r (ad 0), z_r (lA ad 0), z_i (i : Int)] [] h2 (k + 6) (n + 1260)) : z_w g X cL_law RL r 1336 [z_r (g_b g), z_r (ad 0), z_r (lA ad 0), z_i (i : Int)] [] h k n := by
  obtain ⟨⟨fs, hh8⟩, d8, mc, ms, q1, q2, q3, D8⟩ := lq_judge (g := g) hI hL (lx_in g (i + 1)) (lx_in g (i + 2)) (lx_in g (i + 3))
  refine z_aload_n dL_law_1336 rfl ?_
  refine z_aload_n dL_law_1337 rfl ?_
  refine z_iload_n dL_law_1338 rfl ?_
  refine z_iconst dL_law_1339 ?_
  refine z_iadd dL_law_1340 ?_
  refine z_xld (m := i + 1) dL_law_1341 (by omega) ⟨by omega, by omega⟩ ?_
  refine z_aload_n dL_law_1342 rfl ?_
  refine z_iload_n dL_law_1343 rfl ?_
  refine z_iconst dL_law_1344 ?_
  refine z_iadd dL_law_1345 ?_
  refine z_xld (m := i + 2) dL_law_1346 (by omega) ⟨by omega, by omega⟩ ?_
  refine z_aload_n dL_law_1347 rfl ?_
  refine z_iload_n dL_law_1348 rfl ?_
  refine z_iconst dL_law_1349 ?_
  refine z_iadd dL_law_1350 ?_
  refine z_xld (m := i + 3) dL_law_1351 (by omega) ⟨by omega, by omega⟩ ?_
  refine cs_L_172 dL_law_1352 D8 hh8 rfl rfl (Nat.le_of_ble_eq_true rfl) ⟨by omega, by omega, by omega⟩ (fun rv h1 HH => ?_)
  obtain ⟨v, rfl, ⟨fs9, hh9⟩, d9, q4, D9⟩ := HH
  show z_w g X cL_law RL r 1355 [z_r (g_b g), z_r (ad 0), z_r (lA ad 0), z_i (i : Int)] [z_i v] h1 (k + mc) (n + ms)
  refine z_aload_n dL_law_1355 rfl ?_
  refine z_aload_n dL_law_1356 rfl ?_
  refine z_iload_n dL_law_1357 rfl ?_
  refine z_iconst dL_law_1358 ?_
  refine z_iadd dL_law_1359 ?_
  refine z_xld (m := i + 1) dL_law_1360 (by omega) ⟨by omega, by omega⟩ ?_
  refine z_aload_n dL_law_1361 rfl ?_
  refine z_iload_n dL_law_1362 rfl ?_
  refine z_iconst dL_law_1363 ?_
  refine z_iadd dL_law_1364 ?_
  refine z_xld (m := i + 2) dL_law_1365 (by omega) ⟨by omega, by omega⟩ ?_
  refine z_aload_n dL_law_1366 rfl ?_
  refine z_iload_n dL_law_1367 rfl ?_
  refine z_iconst dL_law_1368 ?_
  refine z_iadd dL_law_1369 ?_
  refine z_xld (m := i + 3) dL_law_1370 (by omega) ⟨by omega, by omega⟩ ?_
  refine cs_L_175 dL_law_1371 D9 hh9 rfl rfl (Nat.le_of_ble_eq_true rfl) ⟨by omega, by omega, by omega⟩ (fun rv2 h2 HH2 => ?_)
  obtain ⟨rfl, hL2⟩ := HH2
  show z_w g X cL_law RL r 1374 [z_r (g_b g), z_r (ad 0), z_r (lA ad 0), z_i (i : Int)] [z_i v, z_i v] h2 (k + mc + 0) (n + ms + 0)
  refine z_icmpS dL_law_1374 (tgt := 1474) rfl ?_
  exact z_wk (by omega) (by omega) (KK h2 hL2)
set_option maxHeartbeats 4000000 in
theorem w_days {g : z_G} {X : z_X} {h : z_H} {ad : Nat → Nat} {i k n : Nat} {r : Nat × Nat × Nat} (hI : aJ ad) (hL : lI h ad) (hi : i + 6 ≤ g_L g) (hN : g_L g ≤ 3072) (hr : 40 ≤ r.1 ∧ k + 6 ≤ r.2.1 ∧ n + 1260 ≤ r.2.2) (KK : ∀ h2, lI h2 ad → z_w g X cL_law RL r 1474 [z_r (g_b g), z_r (ad 0), z_r (lA ad 0), z_i (i : Int)] [] h2 (k + 6) (n + 1260)) : z_w g X cL_law RL r 1379 [z_r (g_b g), z_r (ad 0), z_r (lA ad 0), z_i (i : Int)] [] h k n := by
  obtain ⟨⟨fs, hh8⟩, d8, mc, ms, q1, q2, q3, D8⟩ := lq_days (g := g) hI hL (lx_in g (i + 1))
  refine z_aload_n dL_law_1379 rfl ?_
  refine z_aload_n dL_law_1380 rfl ?_
  refine z_iload_n dL_law_1381 rfl ?_
  refine z_iconst dL_law_1382 ?_
  refine z_iadd dL_law_1383 ?_
  refine z_xld (m := i + 1) dL_law_1384 (by omega) ⟨by omega, by omega⟩ ?_
  refine cs_L_176 dL_law_1385 D8 hh8 rfl rfl (Nat.le_of_ble_eq_true rfl) ⟨by omega, by omega, by omega⟩ (fun rv h1 HH => ?_)
  obtain ⟨v, rfl, ⟨fs9, hh9⟩, d9, q4, D9⟩ := HH
  show z_w g X cL_law RL r 1388 [z_r (g_b g), z_r (ad 0), z_r (lA ad 0), z_i (i : Int)] [z_i v] h1 (k + mc) (n + ms)
  refine z_aload_n dL_law_1388 rfl ?_
  refine z_aload_n dL_law_1389 rfl ?_
  refine z_iload_n dL_law_1390 rfl ?_
  refine z_iconst dL_law_1391 ?_
  refine z_iadd dL_law_1392 ?_
  refine z_xld (m := i + 1) dL_law_1393 (by omega) ⟨by omega, by omega⟩ ?_
  refine cs_L_179 dL_law_1394 D9 hh9 rfl rfl (Nat.le_of_ble_eq_true rfl) ⟨by omega, by omega, by omega⟩ (fun rv2 h2 HH2 => ?_)
  obtain ⟨rfl, hL2⟩ := HH2
  show z_w g X cL_law RL r 1397 [z_r (g_b g), z_r (ad 0), z_r (lA ad 0), z_i (i : Int)] [z_i v, z_i v] h2 (k + mc + 0) (n + ms + 0)
  refine z_icmpS dL_law_1397 (tgt := 1474) rfl ?_
  exact z_wk (by omega) (by omega) (KK h2 hL2)
set_option maxHeartbeats 4000000 in
theorem w_seed {g : z_G} {X : z_X} {h : z_H} {ad : Nat → Nat} {i k n : Nat} {r : Nat × Nat × Nat} (hI : aJ ad) (hL : lI h ad) (hi : i + 6 ≤ g_L g) (hN : g_L g ≤ 3072) (hr : 40 ≤ r.1 ∧ k + 6 ≤ r.2.1 ∧ n + 1260 ≤ r.2.2) (KK : ∀ h2, lI h2 ad → z_w g X cL_law RL r 1474 [z_r (g_b g), z_r (ad 0), z_r (lA ad 0), z_i (i : Int)] [] h2 (k + 6) (n + 1260)) : z_w g X cL_law RL r 1402 [z_r (g_b g), z_r (ad 0), z_r (lA ad 0), z_i (i : Int)] [] h k n := by
  obtain ⟨⟨fs, hh8⟩, d8, mc, ms, q1, q2, q3, D8⟩ := lq_seed (g := g) hI hL (lx_in g (i + 1))
  refine z_aload_n dL_law_1402 rfl ?_
  refine z_aload_n dL_law_1403 rfl ?_
  refine z_iload_n dL_law_1404 rfl ?_
  refine z_iconst dL_law_1405 ?_
  refine z_iadd dL_law_1406 ?_
  refine z_xld (m := i + 1) dL_law_1407 (by omega) ⟨by omega, by omega⟩ ?_
  refine cs_L_180 dL_law_1408 D8 hh8 rfl rfl (Nat.le_of_ble_eq_true rfl) ⟨by omega, by omega, by omega⟩ (fun rv h1 HH => ?_)
  obtain ⟨v, rfl, ⟨fs9, hh9⟩, d9, q4, D9⟩ := HH
  show z_w g X cL_law RL r 1411 [z_r (g_b g), z_r (ad 0), z_r (lA ad 0), z_i (i : Int)] [z_i v] h1 (k + mc) (n + ms)
  refine z_aload_n dL_law_1411 rfl ?_
  refine z_aload_n dL_law_1412 rfl ?_
  refine z_iload_n dL_law_1413 rfl ?_
  refine z_iconst dL_law_1414 ?_
  refine z_iadd dL_law_1415 ?_
  refine z_xld (m := i + 1) dL_law_1416 (by omega) ⟨by omega, by omega⟩ ?_
  refine cs_L_183 dL_law_1417 D9 hh9 rfl rfl (Nat.le_of_ble_eq_true rfl) ⟨by omega, by omega, by omega⟩ (fun rv2 h2 HH2 => ?_)
  obtain ⟨rfl, hL2⟩ := HH2
  show z_w g X cL_law RL r 1420 [z_r (g_b g), z_r (ad 0), z_r (lA ad 0), z_i (i : Int)] [z_i v, z_i v] h2 (k + mc + 0) (n + ms + 0)
  refine z_icmpS dL_law_1420 (tgt := 1474) rfl ?_
  exact z_wk (by omega) (by omega) (KK h2 hL2)
set_option maxHeartbeats 4000000 in
theorem w_image {g : z_G} {X : z_X} {h : z_H} {ad : Nat → Nat} {i k n : Nat} {r : Nat × Nat × Nat} (hI : aJ ad) (hL : lI h ad) (hi : i + 6 ≤ g_L g) (hN : g_L g ≤ 3072) (hr : 40 ≤ r.1 ∧ k + 6 ≤ r.2.1 ∧ n + 1260 ≤ r.2.2) (KK : ∀ h2, lI h2 ad → z_w g X cL_law RL r 1474 [z_r (g_b g), z_r (ad 0), z_r (lA ad 0), z_i (i : Int)] [] h2 (k + 6) (n + 1260)) : z_w g X cL_law RL r 1425 [z_r (g_b g), z_r (ad 0), z_r (lA ad 0), z_i (i : Int)] [] h k n := by
  obtain ⟨⟨fs, hh8⟩, d8, mc, ms, q1, q2, q3, D8⟩ := lq_image (g := g) hI hL
  refine z_aload_n dL_law_1425 rfl ?_
  refine cs_L_184 dL_law_1426 D8 hh8 rfl rfl (Nat.le_of_ble_eq_true rfl) ⟨by omega, by omega, by omega⟩ (fun rv h1 HH => ?_)
  obtain ⟨v, rfl, ⟨fs9, hh9⟩, d9, q4, D9⟩ := HH
  show z_w g X cL_law RL r 1429 [z_r (g_b g), z_r (ad 0), z_r (lA ad 0), z_i (i : Int)] [z_i v] h1 (k + mc) (n + ms)
  refine z_aload_n dL_law_1429 rfl ?_
  refine cs_L_187 dL_law_1430 D9 hh9 rfl rfl (Nat.le_of_ble_eq_true rfl) ⟨by omega, by omega, by omega⟩ (fun rv2 h2 HH2 => ?_)
  obtain ⟨rfl, hL2⟩ := HH2
  show z_w g X cL_law RL r 1433 [z_r (g_b g), z_r (ad 0), z_r (lA ad 0), z_i (i : Int)] [z_i v, z_i v] h2 (k + mc + 0) (n + ms + 0)
  refine z_icmpS dL_law_1433 (tgt := 1474) rfl ?_
  exact z_wk (by omega) (by omega) (KK h2 hL2)
set_option maxHeartbeats 4000000 in
theorem w_back {g : z_G} {X : z_X} {h : z_H} {ad : Nat → Nat} {i k n : Nat} {r : Nat × Nat × Nat} (hI : aJ ad) (hL : lI h ad) (hi : i + 6 ≤ g_L g) (hN : g_L g ≤ 3072) (hr : 40 ≤ r.1 ∧ k + 6 ≤ r.2.1 ∧ n + 1260 ≤ r.2.2) (KK : ∀ h2, lI h2 ad → z_w g X cL_law RL r 1474 [z_r (g_b g), z_r (ad 0), z_r (lA ad 0), z_i (i : Int)] [] h2 (k + 6) (n + 1260)) : z_w g X cL_law RL r 1438 [z_r (g_b g), z_r (ad 0), z_r (lA ad 0), z_i (i : Int)] [] h k n := by
  obtain ⟨⟨fs, hh8⟩, d8, mc, ms, q1, q2, q3, D8⟩ := lq_back (g := g) hI hL
  refine z_aload_n dL_law_1438 rfl ?_
  refine cs_L_188 dL_law_1439 D8 hh8 rfl rfl (Nat.le_of_ble_eq_true rfl) ⟨by omega, by omega, by omega⟩ (fun rv h1 HH => ?_)
  obtain ⟨v, rfl, ⟨fs9, hh9⟩, d9, q4, D9⟩ := HH
  show z_w g X cL_law RL r 1442 [z_r (g_b g), z_r (ad 0), z_r (lA ad 0), z_i (i : Int)] [z_i v] h1 (k + mc) (n + ms)
  refine z_aload_n dL_law_1442 rfl ?_
  refine cs_L_191 dL_law_1443 D9 hh9 rfl rfl (Nat.le_of_ble_eq_true rfl) ⟨by omega, by omega, by omega⟩ (fun rv2 h2 HH2 => ?_)
  obtain ⟨rfl, hL2⟩ := HH2
  show z_w g X cL_law RL r 1446 [z_r (g_b g), z_r (ad 0), z_r (lA ad 0), z_i (i : Int)] [z_i v, z_i v] h2 (k + mc + 0) (n + ms + 0)
  refine z_icmpS dL_law_1446 (tgt := 1474) rfl ?_
  exact z_wk (by omega) (by omega) (KK h2 hL2)
set_option maxHeartbeats 4000000 in
theorem w_status {g : z_G} {X : z_X} {h : z_H} {ad : Nat → Nat} {i k n : Nat} {r : Nat × Nat × Nat} (hI : aJ ad) (hL : lI h ad) (hi : i + 6 ≤ g_L g) (hN : g_L g ≤ 3072) (hr : 40 ≤ r.1 ∧ k + 6 ≤ r.2.1 ∧ n + 1260 ≤ r.2.2) (KK : ∀ h2, lI h2 ad → z_w g X cL_law RL r 1474 [z_r (g_b g), z_r (ad 0), z_r (lA ad 0), z_i (i : Int)] [] h2 (k + 6) (n + 1260)) : z_w g X cL_law RL r 1451 [z_r (g_b g), z_r (ad 0), z_r (lA ad 0), z_i (i : Int)] [] h k n := by
  obtain ⟨⟨fs, hh8⟩, d8, mc, ms, q1, q2, q3, D8⟩ := lq_status (g := g) hI hL (lx_in g (i + 1))
  refine z_aload_n dL_law_1451 rfl ?_
  refine z_aload_n dL_law_1452 rfl ?_
  refine z_iload_n dL_law_1453 rfl ?_
  refine z_iconst dL_law_1454 ?_
  refine z_iadd dL_law_1455 ?_
  refine z_xld (m := i + 1) dL_law_1456 (by omega) ⟨by omega, by omega⟩ ?_
  refine cs_L_192 dL_law_1457 D8 hh8 rfl rfl (Nat.le_of_ble_eq_true rfl) ⟨by omega, by omega, by omega⟩ (fun rv h1 HH => ?_)
  obtain ⟨v, rfl, ⟨fs9, hh9⟩, d9, q4, D9⟩ := HH
  show z_w g X cL_law RL r 1460 [z_r (g_b g), z_r (ad 0), z_r (lA ad 0), z_i (i : Int)] [z_i v] h1 (k + mc) (n + ms)
  refine z_aload_n dL_law_1460 rfl ?_
  refine z_aload_n dL_law_1461 rfl ?_
  refine z_iload_n dL_law_1462 rfl ?_
  refine z_iconst dL_law_1463 ?_
  refine z_iadd dL_law_1464 ?_
  refine z_xld (m := i + 1) dL_law_1465 (by omega) ⟨by omega, by omega⟩ ?_
  refine cs_L_195 dL_law_1466 D9 hh9 rfl rfl (Nat.le_of_ble_eq_true rfl) ⟨by omega, by omega, by omega⟩ (fun rv2 h2 HH2 => ?_)
  obtain ⟨rfl, hL2⟩ := HH2
  show z_w g X cL_law RL r 1469 [z_r (g_b g), z_r (ad 0), z_r (lA ad 0), z_i (i : Int)] [z_i v, z_i v] h2 (k + mc + 0) (n + ms + 0)
  refine z_icmpS dL_law_1469 (tgt := 1474) rfl ?_
  exact z_wk (by omega) (by omega) (KK h2 hL2)
