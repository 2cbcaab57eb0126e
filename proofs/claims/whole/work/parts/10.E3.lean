/-! THE LAW 3: a call of each kind -/
set_option maxRecDepth 20000
section ZCASES
variable {G : zM} {j : Nat} {σ : gS}
theorem zc_0 (ho : zOk G) (hj : j + 7 ≤ zL G) (hI : Inv σ) (hk : ∀ τ, Inv τ → zAt G j 1232 [] τ) : zAt G j 156 [] σ := by
  obtain ⟨r, σ1, σ2, h1, h2, hI2⟩ := step_feed hI (zx G (j + 1))
  refine z_al1 ho dL_156 rfl ?_
  refine z_arg ho 1 (by decide) (by omega) dL_157 dL_158 dL_159 dL_160 dL_161 rfl ?_
  refine z_calli ho vy_X11_feed ml_L_13 o_0 (C_X11_feed h1) rfl rfl (Nat.le_of_ble_eq_true rfl) (Nat.le_of_ble_eq_true rfl) dL_162 rfl ?_
  refine z_al2 ho dL_165 rfl ?_
  refine z_arg ho 1 (by decide) (by omega) dL_166 dL_167 dL_168 dL_169 dL_170 rfl ?_
  refine z_calli ho vy_X12_feed ml_L_17 o_82 (C_X12_feed h2) rfl rfl (Nat.le_of_ble_eq_true rfl) (Nat.le_of_ble_eq_true rfl) dL_171 rfl ?_
  exact z_eq ho dL_174 (by decide) (hk σ2 hI2)
theorem zc_1 (ho : zOk G) (hj : j + 7 ≤ zL G) (hI : Inv σ) (hk : ∀ τ, Inv τ → zAt G j 1232 [] τ) : zAt G j 179 [] σ := by
  obtain ⟨r, σ1, σ2, h1, h2, hI2⟩ := step_cloth hI 
  refine z_al1 ho dL_179 rfl ?_
  refine z_calli ho vy_X11_cloth ml_L_18 o_0 (C_X11_cloth h1) rfl rfl (Nat.le_of_ble_eq_true rfl) (Nat.le_of_ble_eq_true rfl) dL_180 rfl ?_
  refine z_al2 ho dL_183 rfl ?_
  refine z_calli ho vy_X12_cloth ml_L_22 o_82 (C_X12_cloth h2) rfl rfl (Nat.le_of_ble_eq_true rfl) (Nat.le_of_ble_eq_true rfl) dL_184 rfl ?_
  exact z_eq ho dL_187 (by decide) (hk σ2 hI2)
theorem zc_2 (ho : zOk G) (hj : j + 7 ≤ zL G) (hI : Inv σ) (hk : ∀ τ, Inv τ → zAt G j 1232 [] τ) : zAt G j 192 [] σ := by
  obtain ⟨r, h1, h2⟩ := step_square hI (zx G (j + 1)) (zx G (j + 2))
  refine z_al1 ho dL_192 rfl ?_
  refine z_arg ho 1 (by decide) (by omega) dL_193 dL_194 dL_195 dL_196 dL_197 rfl ?_
  refine z_arg ho 2 (by decide) (by omega) dL_198 dL_199 dL_200 dL_201 dL_202 rfl ?_
  refine z_calli ho vy_X11_square ml_L_23 o_0 (C_X11_square h1) rfl rfl (Nat.le_of_ble_eq_true rfl) (Nat.le_of_ble_eq_true rfl) dL_203 rfl ?_
  refine z_al2 ho dL_206 rfl ?_
  refine z_arg ho 1 (by decide) (by omega) dL_207 dL_208 dL_209 dL_210 dL_211 rfl ?_
  refine z_arg ho 2 (by decide) (by omega) dL_212 dL_213 dL_214 dL_215 dL_216 rfl ?_
  refine z_calli ho vy_X12_square ml_L_27 o_82 (C_X12_square h2) rfl rfl (Nat.le_of_ble_eq_true rfl) (Nat.le_of_ble_eq_true rfl) dL_217 rfl ?_
  exact z_eq ho dL_220 (by decide) (hk σ hI)
theorem zc_3 (ho : zOk G) (hj : j + 7 ≤ zL G) (hI : Inv σ) (hk : ∀ τ, Inv τ → zAt G j 1232 [] τ) : zAt G j 225 [] σ := by
  obtain ⟨r, h1, h2⟩ := step_as hI (zx G (j + 1)) (zx G (j + 2))
  refine z_al1 ho dL_225 rfl ?_
  refine z_arg ho 1 (by decide) (by omega) dL_226 dL_227 dL_228 dL_229 dL_230 rfl ?_
  refine z_arg ho 2 (by decide) (by omega) dL_231 dL_232 dL_233 dL_234 dL_235 rfl ?_
  refine z_calli ho vy_X11_as ml_L_28 o_0 (C_X11_as h1) rfl rfl (Nat.le_of_ble_eq_true rfl) (Nat.le_of_ble_eq_true rfl) dL_236 rfl ?_
  refine z_al2 ho dL_239 rfl ?_
  refine z_arg ho 1 (by decide) (by omega) dL_240 dL_241 dL_242 dL_243 dL_244 rfl ?_
  refine z_arg ho 2 (by decide) (by omega) dL_245 dL_246 dL_247 dL_248 dL_249 rfl ?_
  refine z_calli ho vy_X12_as ml_L_31 o_82 (C_X12_as h2) rfl rfl (Nat.le_of_ble_eq_true rfl) (Nat.le_of_ble_eq_true rfl) dL_250 rfl ?_
  exact z_eq ho dL_253 (by decide) (hk σ hI)
theorem zc_4 (ho : zOk G) (hj : j + 7 ≤ zL G) (hI : Inv σ) (hk : ∀ τ, Inv τ → zAt G j 1232 [] τ) : zAt G j 258 [] σ := by
  obtain ⟨r, h1, h2⟩ := step_dye hI (zx G (j + 1)) (zx G (j + 2))
  refine z_al1 ho dL_258 rfl ?_
  refine z_arg ho 1 (by decide) (by omega) dL_259 dL_260 dL_261 dL_262 dL_263 rfl ?_
  refine z_arg ho 2 (by decide) (by omega) dL_264 dL_265 dL_266 dL_267 dL_268 rfl ?_
  refine z_calli ho vy_X11_dye ml_L_32 o_0 (C_X11_dye h1) rfl rfl (Nat.le_of_ble_eq_true rfl) (Nat.le_of_ble_eq_true rfl) dL_269 rfl ?_
  refine z_al2 ho dL_272 rfl ?_
  refine z_arg ho 1 (by decide) (by omega) dL_273 dL_274 dL_275 dL_276 dL_277 rfl ?_
  refine z_arg ho 2 (by decide) (by omega) dL_278 dL_279 dL_280 dL_281 dL_282 rfl ?_
  refine z_calli ho vy_X12_dye ml_L_35 o_82 (C_X12_dye h2) rfl rfl (Nat.le_of_ble_eq_true rfl) (Nat.le_of_ble_eq_true rfl) dL_283 rfl ?_
  exact z_eq ho dL_286 (by decide) (hk σ hI)
theorem zc_5 (ho : zOk G) (hj : j + 7 ≤ zL G) (hI : Inv σ) (hk : ∀ τ, Inv τ → zAt G j 1232 [] τ) : zAt G j 291 [] σ := by
  obtain ⟨r, h1, h2⟩ := step_stencil hI (zx G (j + 1))
  refine z_al1 ho dL_291 rfl ?_
  refine z_arg ho 1 (by decide) (by omega) dL_292 dL_293 dL_294 dL_295 dL_296 rfl ?_
  refine z_calli ho vy_X11_stencil ml_L_36 o_0 (C_X11_stencil h1) rfl rfl (Nat.le_of_ble_eq_true rfl) (Nat.le_of_ble_eq_true rfl) dL_297 rfl ?_
  refine z_al2 ho dL_300 rfl ?_
  refine z_arg ho 1 (by decide) (by omega) dL_301 dL_302 dL_303 dL_304 dL_305 rfl ?_
  refine z_calli ho vy_X12_stencil ml_L_39 o_82 (C_X12_stencil h2) rfl rfl (Nat.le_of_ble_eq_true rfl) (Nat.le_of_ble_eq_true rfl) dL_306 rfl ?_
  exact z_eq ho dL_309 (by decide) (hk σ hI)
theorem zc_6 (ho : zOk G) (hj : j + 7 ≤ zL G) (hI : Inv σ) (hk : ∀ τ, Inv τ → zAt G j 1232 [] τ) : zAt G j 314 [] σ := by
  obtain ⟨r, h1, h2⟩ := step_takes hI (zx G (j + 1)) (zx G (j + 2)) (zx G (j + 3))
  refine z_al1 ho dL_314 rfl ?_
  refine z_arg ho 1 (by decide) (by omega) dL_315 dL_316 dL_317 dL_318 dL_319 rfl ?_
  refine z_arg ho 2 (by decide) (by omega) dL_320 dL_321 dL_322 dL_323 dL_324 rfl ?_
  refine z_arg ho 3 (by decide) (by omega) dL_325 dL_326 dL_327 dL_328 dL_329 rfl ?_
  refine z_calli ho vy_X11_takes ml_L_40 o_0 (C_X11_takes h1) rfl rfl (Nat.le_of_ble_eq_true rfl) (Nat.le_of_ble_eq_true rfl) dL_330 rfl ?_
  refine z_al2 ho dL_333 rfl ?_
  refine z_arg ho 1 (by decide) (by omega) dL_334 dL_335 dL_336 dL_337 dL_338 rfl ?_
  refine z_arg ho 2 (by decide) (by omega) dL_339 dL_340 dL_341 dL_342 dL_343 rfl ?_
  refine z_arg ho 3 (by decide) (by omega) dL_344 dL_345 dL_346 dL_347 dL_348 rfl ?_
  refine z_calli ho vy_X12_takes ml_L_44 o_82 (C_X12_takes h2) rfl rfl (Nat.le_of_ble_eq_true rfl) (Nat.le_of_ble_eq_true rfl) dL_349 rfl ?_
  exact z_eq ho dL_352 (by decide) (hk σ hI)
theorem zc_7 (ho : zOk G) (hj : j + 7 ≤ zL G) (hI : Inv σ) (hk : ∀ τ, Inv τ → zAt G j 1232 [] τ) : zAt G j 357 [] σ := by
  obtain ⟨r, σ1, σ2, h1, h2, hI2⟩ := step_does hI (zx G (j + 1))
  refine z_al1 ho dL_357 rfl ?_
  refine z_arg ho 1 (by decide) (by omega) dL_358 dL_359 dL_360 dL_361 dL_362 rfl ?_
  refine z_calli ho vy_X11_does ml_L_45 o_0 (C_X11_does h1) rfl rfl (Nat.le_of_ble_eq_true rfl) (Nat.le_of_ble_eq_true rfl) dL_363 rfl ?_
  refine z_al2 ho dL_366 rfl ?_
  refine z_arg ho 1 (by decide) (by omega) dL_367 dL_368 dL_369 dL_370 dL_371 rfl ?_
  refine z_calli ho vy_X12_does ml_L_48 o_82 (C_X12_does h2) rfl rfl (Nat.le_of_ble_eq_true rfl) (Nat.le_of_ble_eq_true rfl) dL_372 rfl ?_
  exact z_eq ho dL_375 (by decide) (hk σ2 hI2)
theorem zc_8 (ho : zOk G) (hj : j + 7 ≤ zL G) (hI : Inv σ) (hk : ∀ τ, Inv τ → zAt G j 1232 [] τ) : zAt G j 380 [] σ := by
  obtain ⟨r, σ1, σ2, h1, h2, hI2⟩ := step_undo hI 
  refine z_al1 ho dL_380 rfl ?_
  refine z_calli ho vy_X11_undo ml_L_49 o_0 (C_X11_undo h1) rfl rfl (Nat.le_of_ble_eq_true rfl) (Nat.le_of_ble_eq_true rfl) dL_381 rfl ?_
  refine z_al2 ho dL_384 rfl ?_
  refine z_calli ho vy_X12_undo ml_L_52 o_82 (C_X12_undo h2) rfl rfl (Nat.le_of_ble_eq_true rfl) (Nat.le_of_ble_eq_true rfl) dL_385 rfl ?_
  exact z_eq ho dL_388 (by decide) (hk σ2 hI2)
theorem zc_9 (ho : zOk G) (hj : j + 7 ≤ zL G) (hI : Inv σ) (hk : ∀ τ, Inv τ → zAt G j 1232 [] τ) : zAt G j 393 [] σ := by
  obtain ⟨r, σ1, σ2, h1, h2, hI2⟩ := step_wish hI (zx G (j + 1)) (zx G (j + 2))
  refine z_al1 ho dL_393 rfl ?_
  refine z_arg ho 1 (by decide) (by omega) dL_394 dL_395 dL_396 dL_397 dL_398 rfl ?_
  refine z_arg ho 2 (by decide) (by omega) dL_399 dL_400 dL_401 dL_402 dL_403 rfl ?_
  refine z_calli ho vy_X11_wish ml_L_53 o_0 (C_X11_wish h1) rfl rfl (Nat.le_of_ble_eq_true rfl) (Nat.le_of_ble_eq_true rfl) dL_404 rfl ?_
  refine z_al2 ho dL_407 rfl ?_
  refine z_arg ho 1 (by decide) (by omega) dL_408 dL_409 dL_410 dL_411 dL_412 rfl ?_
  refine z_arg ho 2 (by decide) (by omega) dL_413 dL_414 dL_415 dL_416 dL_417 rfl ?_
  refine z_calli ho vy_X12_wish ml_L_56 o_82 (C_X12_wish h2) rfl rfl (Nat.le_of_ble_eq_true rfl) (Nat.le_of_ble_eq_true rfl) dL_418 rfl ?_
  exact z_eq ho dL_421 (by decide) (hk σ2 hI2)
theorem zc_10 (ho : zOk G) (hj : j + 7 ≤ zL G) (hI : Inv σ) (hk : ∀ τ, Inv τ → zAt G j 1232 [] τ) : zAt G j 426 [] σ := by
  obtain ⟨r, σ1, σ2, h1, h2, hI2⟩ := step_image hI (zx G (j + 1))
  refine z_al1 ho dL_426 rfl ?_
  refine z_arg ho 1 (by decide) (by omega) dL_427 dL_428 dL_429 dL_430 dL_431 rfl ?_
  refine z_calli ho vy_X11_image ml_L_57 o_0 (C_X11_image h1) rfl rfl (Nat.le_of_ble_eq_true rfl) (Nat.le_of_ble_eq_true rfl) dL_432 rfl ?_
  refine z_al2 ho dL_435 rfl ?_
  refine z_arg ho 1 (by decide) (by omega) dL_436 dL_437 dL_438 dL_439 dL_440 rfl ?_
  refine z_calli ho vy_X12_image ml_L_60 o_82 (C_X12_image h2) rfl rfl (Nat.le_of_ble_eq_true rfl) (Nat.le_of_ble_eq_true rfl) dL_441 rfl ?_
  exact z_eq ho dL_444 (by decide) (hk σ2 hI2)
theorem zc_11 (ho : zOk G) (hj : j + 7 ≤ zL G) (hI : Inv σ) (hk : ∀ τ, Inv τ → zAt G j 1232 [] τ) : zAt G j 449 [] σ := by
  obtain ⟨r, σ1, σ2, h1, h2, hI2⟩ := step_restore hI (zx G (j + 1))
  refine z_al1 ho dL_449 rfl ?_
  refine z_arg ho 1 (by decide) (by omega) dL_450 dL_451 dL_452 dL_453 dL_454 rfl ?_
  refine z_calli ho vy_X11_restore ml_L_61 o_0 (C_X11_restore h1) rfl rfl (Nat.le_of_ble_eq_true rfl) (Nat.le_of_ble_eq_true rfl) dL_455 rfl ?_
  refine z_al2 ho dL_458 rfl ?_
  refine z_arg ho 1 (by decide) (by omega) dL_459 dL_460 dL_461 dL_462 dL_463 rfl ?_
  refine z_calli ho vy_X12_restore ml_L_64 o_82 (C_X12_restore h2) rfl rfl (Nat.le_of_ble_eq_true rfl) (Nat.le_of_ble_eq_true rfl) dL_464 rfl ?_
  exact z_eq ho dL_467 (by decide) (hk σ2 hI2)
theorem zc_12 (ho : zOk G) (hj : j + 7 ≤ zL G) (hI : Inv σ) (hk : ∀ τ, Inv τ → zAt G j 1232 [] τ) : zAt G j 472 [] σ := by
  obtain ⟨r, σ1, σ2, h1, h2, hI2⟩ := step_plan hI (zx G (j + 1)) (zx G (j + 2))
  refine z_al1 ho dL_472 rfl ?_
  refine z_arg ho 1 (by decide) (by omega) dL_473 dL_474 dL_475 dL_476 dL_477 rfl ?_
  refine z_arg ho 2 (by decide) (by omega) dL_478 dL_479 dL_480 dL_481 dL_482 rfl ?_
  refine z_calli ho vy_X11_plan ml_L_65 o_0 (C_X11_plan h1) rfl rfl (Nat.le_of_ble_eq_true rfl) (Nat.le_of_ble_eq_true rfl) dL_483 rfl ?_
  refine z_al2 ho dL_486 rfl ?_
  refine z_arg ho 1 (by decide) (by omega) dL_487 dL_488 dL_489 dL_490 dL_491 rfl ?_
  refine z_arg ho 2 (by decide) (by omega) dL_492 dL_493 dL_494 dL_495 dL_496 rfl ?_
  refine z_calli ho vy_X12_plan ml_L_68 o_82 (C_X12_plan h2) rfl rfl (Nat.le_of_ble_eq_true rfl) (Nat.le_of_ble_eq_true rfl) dL_497 rfl ?_
  exact z_eq ho dL_500 (by decide) (hk σ2 hI2)
theorem zc_13 (ho : zOk G) (hj : j + 7 ≤ zL G) (hI : Inv σ) (hk : ∀ τ, Inv τ → zAt G j 1232 [] τ) : zAt G j 505 [] σ := by
  obtain ⟨r, σ1, σ2, h1, h2, hI2⟩ := step_rows hI (zx G (j + 1)) (zx G (j + 2)) (zx G (j + 3)) (zx G (j + 4)) (zx G (j + 5)) (zx G (j + 6))
  refine z_al1 ho dL_505 rfl ?_
  refine z_arg ho 1 (by decide) (by omega) dL_506 dL_507 dL_508 dL_509 dL_510 rfl ?_
  refine z_arg ho 2 (by decide) (by omega) dL_511 dL_512 dL_513 dL_514 dL_515 rfl ?_
  refine z_arg ho 3 (by decide) (by omega) dL_516 dL_517 dL_518 dL_519 dL_520 rfl ?_
  refine z_arg ho 4 (by decide) (by omega) dL_521 dL_522 dL_523 dL_524 dL_525 rfl ?_
  refine z_arg ho 5 (by decide) (by omega) dL_526 dL_527 dL_528 dL_529 dL_530 rfl ?_
  refine z_arg6 ho 6 (by decide) (by omega) dL_531 dL_532 dL_533 dL_535 dL_536 rfl ?_
  refine z_calli ho vy_X11_rows ml_L_69 o_0 (C_X11_rows h1) rfl rfl (Nat.le_of_ble_eq_true rfl) (Nat.le_of_ble_eq_true rfl) dL_537 rfl ?_
  refine z_al2 ho dL_540 rfl ?_
  refine z_arg ho 1 (by decide) (by omega) dL_541 dL_542 dL_543 dL_544 dL_545 rfl ?_
  refine z_arg ho 2 (by decide) (by omega) dL_546 dL_547 dL_548 dL_549 dL_550 rfl ?_
  refine z_arg ho 3 (by decide) (by omega) dL_551 dL_552 dL_553 dL_554 dL_555 rfl ?_
  refine z_arg ho 4 (by decide) (by omega) dL_556 dL_557 dL_558 dL_559 dL_560 rfl ?_
  refine z_arg ho 5 (by decide) (by omega) dL_561 dL_562 dL_563 dL_564 dL_565 rfl ?_
  refine z_arg6 ho 6 (by decide) (by omega) dL_566 dL_567 dL_568 dL_570 dL_571 rfl ?_
  refine z_calli ho vy_X12_rows ml_L_73 o_82 (C_X12_rows h2) rfl rfl (Nat.le_of_ble_eq_true rfl) (Nat.le_of_ble_eq_true rfl) dL_572 rfl ?_
  exact z_eq ho dL_575 (by decide) (hk σ2 hI2)
theorem zc_14 (ho : zOk G) (hj : j + 7 ≤ zL G) (hI : Inv σ) (hk : ∀ τ, Inv τ → zAt G j 1232 [] τ) : zAt G j 580 [] σ := by
  obtain ⟨r, σ1, σ2, h1, h2, hI2⟩ := step_shades hI (zx G (j + 1)) (zx G (j + 2))
  refine z_al1 ho dL_580 rfl ?_
  refine z_arg ho 1 (by decide) (by omega) dL_581 dL_582 dL_583 dL_584 dL_585 rfl ?_
  refine z_arg ho 2 (by decide) (by omega) dL_586 dL_587 dL_588 dL_589 dL_590 rfl ?_
  refine z_calli ho vy_X11_shades ml_L_74 o_0 (C_X11_shades h1) rfl rfl (Nat.le_of_ble_eq_true rfl) (Nat.le_of_ble_eq_true rfl) dL_591 rfl ?_
  refine z_al2 ho dL_594 rfl ?_
  refine z_arg ho 1 (by decide) (by omega) dL_595 dL_596 dL_597 dL_598 dL_599 rfl ?_
  refine z_arg ho 2 (by decide) (by omega) dL_600 dL_601 dL_602 dL_603 dL_604 rfl ?_
  refine z_calli ho vy_X12_shades ml_L_77 o_82 (C_X12_shades h2) rfl rfl (Nat.le_of_ble_eq_true rfl) (Nat.le_of_ble_eq_true rfl) dL_605 rfl ?_
  exact z_eq ho dL_608 (by decide) (hk σ2 hI2)
theorem zc_15 (ho : zOk G) (hj : j + 7 ≤ zL G) (hI : Inv σ) (hk : ∀ τ, Inv τ → zAt G j 1232 [] τ) : zAt G j 613 [] σ := by
  obtain ⟨r, σ1, σ2, h1, h2, hI2⟩ := step_cracks hI (zx G (j + 1)) (zx G (j + 2)) (zx G (j + 3)) (zx G (j + 4))
  refine z_al1 ho dL_613 rfl ?_
  refine z_arg ho 1 (by decide) (by omega) dL_614 dL_615 dL_616 dL_617 dL_618 rfl ?_
  refine z_arg ho 2 (by decide) (by omega) dL_619 dL_620 dL_621 dL_622 dL_623 rfl ?_
  refine z_arg ho 3 (by decide) (by omega) dL_624 dL_625 dL_626 dL_627 dL_628 rfl ?_
  refine z_arg ho 4 (by decide) (by omega) dL_629 dL_630 dL_631 dL_632 dL_633 rfl ?_
  refine z_calli ho vy_X11_cracks ml_L_78 o_0 (C_X11_cracks h1) rfl rfl (Nat.le_of_ble_eq_true rfl) (Nat.le_of_ble_eq_true rfl) dL_634 rfl ?_
  refine z_al2 ho dL_637 rfl ?_
  refine z_arg ho 1 (by decide) (by omega) dL_638 dL_639 dL_640 dL_641 dL_642 rfl ?_
  refine z_arg ho 2 (by decide) (by omega) dL_643 dL_644 dL_645 dL_646 dL_647 rfl ?_
  refine z_arg ho 3 (by decide) (by omega) dL_648 dL_649 dL_650 dL_651 dL_652 rfl ?_
  refine z_arg ho 4 (by decide) (by omega) dL_653 dL_654 dL_655 dL_656 dL_657 rfl ?_
  refine z_calli ho vy_X12_cracks ml_L_82 o_82 (C_X12_cracks h2) rfl rfl (Nat.le_of_ble_eq_true rfl) (Nat.le_of_ble_eq_true rfl) dL_658 rfl ?_
  exact z_eq ho dL_661 (by decide) (hk σ2 hI2)
theorem zc_16 (ho : zOk G) (hj : j + 7 ≤ zL G) (hI : Inv σ) (hk : ∀ τ, Inv τ → zAt G j 1232 [] τ) : zAt G j 666 [] σ := by
  obtain ⟨r, σ1, σ2, h1, h2, hI2⟩ := step_decades hI (zx G (j + 1)) (zx G (j + 2)) (zx G (j + 3))
  refine z_al1 ho dL_666 rfl ?_
  refine z_arg ho 1 (by decide) (by omega) dL_667 dL_668 dL_669 dL_670 dL_671 rfl ?_
  refine z_arg ho 2 (by decide) (by omega) dL_672 dL_673 dL_674 dL_675 dL_676 rfl ?_
  refine z_arg ho 3 (by decide) (by omega) dL_677 dL_678 dL_679 dL_680 dL_681 rfl ?_
  refine z_calli ho vy_X11_decades ml_L_83 o_0 (C_X11_decades h1) rfl rfl (Nat.le_of_ble_eq_true rfl) (Nat.le_of_ble_eq_true rfl) dL_682 rfl ?_
  refine z_al2 ho dL_685 rfl ?_
  refine z_arg ho 1 (by decide) (by omega) dL_686 dL_687 dL_688 dL_689 dL_690 rfl ?_
  refine z_arg ho 2 (by decide) (by omega) dL_691 dL_692 dL_693 dL_694 dL_695 rfl ?_
  refine z_arg ho 3 (by decide) (by omega) dL_696 dL_697 dL_698 dL_699 dL_700 rfl ?_
  refine z_calli ho vy_X12_decades ml_L_86 o_82 (C_X12_decades h2) rfl rfl (Nat.le_of_ble_eq_true rfl) (Nat.le_of_ble_eq_true rfl) dL_701 rfl ?_
  exact z_eq ho dL_704 (by decide) (hk σ2 hI2)
theorem zc_17 (ho : zOk G) (hj : j + 7 ≤ zL G) (hI : Inv σ) (hk : ∀ τ, Inv τ → zAt G j 1232 [] τ) : zAt G j 709 [] σ := by
  obtain ⟨r, σ1, σ2, h1, h2, hI2⟩ := step_sheet hI (zx G (j + 1)) (zx G (j + 2)) (zx G (j + 3))
  refine z_al1 ho dL_709 rfl ?_
  refine z_arg ho 1 (by decide) (by omega) dL_710 dL_711 dL_712 dL_713 dL_714 rfl ?_
  refine z_arg ho 2 (by decide) (by omega) dL_715 dL_716 dL_717 dL_718 dL_719 rfl ?_
  refine z_arg ho 3 (by decide) (by omega) dL_720 dL_721 dL_722 dL_723 dL_724 rfl ?_
  refine z_calli ho vy_X11_sheet ml_L_87 o_0 (C_X11_sheet h1) rfl rfl (Nat.le_of_ble_eq_true rfl) (Nat.le_of_ble_eq_true rfl) dL_725 rfl ?_
  refine z_al2 ho dL_728 rfl ?_
  refine z_arg ho 1 (by decide) (by omega) dL_729 dL_730 dL_731 dL_732 dL_733 rfl ?_
  refine z_arg ho 2 (by decide) (by omega) dL_734 dL_735 dL_736 dL_737 dL_738 rfl ?_
  refine z_arg ho 3 (by decide) (by omega) dL_739 dL_740 dL_741 dL_742 dL_743 rfl ?_
  refine z_calli ho vy_X12_sheet ml_L_90 o_82 (C_X12_sheet h2) rfl rfl (Nat.le_of_ble_eq_true rfl) (Nat.le_of_ble_eq_true rfl) dL_744 rfl ?_
  exact z_eq ho dL_747 (by decide) (hk σ2 hI2)
theorem zc_18 (ho : zOk G) (hj : j + 7 ≤ zL G) (hI : Inv σ) (hk : ∀ τ, Inv τ → zAt G j 1232 [] τ) : zAt G j 752 [] σ := by
  obtain ⟨r, σ1, σ2, h1, h2, hI2⟩ := step_drop hI (zx G (j + 1))
  refine z_al1 ho dL_752 rfl ?_
  refine z_arg ho 1 (by decide) (by omega) dL_753 dL_754 dL_755 dL_756 dL_757 rfl ?_
  refine z_calli ho vy_X11_drop ml_L_91 o_0 (C_X11_drop h1) rfl rfl (Nat.le_of_ble_eq_true rfl) (Nat.le_of_ble_eq_true rfl) dL_758 rfl ?_
  refine z_al2 ho dL_761 rfl ?_
  refine z_arg ho 1 (by decide) (by omega) dL_762 dL_763 dL_764 dL_765 dL_766 rfl ?_
  refine z_calli ho vy_X12_drop ml_L_94 o_82 (C_X12_drop h2) rfl rfl (Nat.le_of_ble_eq_true rfl) (Nat.le_of_ble_eq_true rfl) dL_767 rfl ?_
  exact z_eq ho dL_770 (by decide) (hk σ2 hI2)
theorem zc_19 (ho : zOk G) (hj : j + 7 ≤ zL G) (hI : Inv σ) (hk : ∀ τ, Inv τ → zAt G j 1232 [] τ) : zAt G j 775 [] σ := by
  obtain ⟨r, σ1, σ2, h1, h2, hI2⟩ := step_item hI (zx G (j + 1)) (zx G (j + 2)) (zx G (j + 3)) (((zx G (j + 4)).toInt64 <<< ((32 : Int32).toInt64 &&& 63)) ||| ((zx G (j + 5)).toInt64 &&& 4294967295))
  refine z_al1 ho dL_775 rfl ?_
  refine z_arg ho 1 (by decide) (by omega) dL_776 dL_777 dL_778 dL_779 dL_780 rfl ?_
  refine z_arg ho 2 (by decide) (by omega) dL_781 dL_782 dL_783 dL_784 dL_785 rfl ?_
  refine z_arg ho 3 (by decide) (by omega) dL_786 dL_787 dL_788 dL_789 dL_790 rfl ?_
  refine z_arg ho 4 (by decide) (by omega) dL_791 dL_792 dL_793 dL_794 dL_795 rfl ?_
  refine z_i2l ho dL_796 rfl ?_
  refine z_bip (v := 32) ho dL_797 rfl (by decide) ?_
  refine z_lshl ho dL_799 rfl ?_
  refine z_arg ho 5 (by decide) (by omega) dL_800 dL_801 dL_802 dL_803 dL_804 rfl ?_
  refine z_i2l ho dL_805 rfl ?_
  refine z_ldc2 ho dL_806 rfl kk_L_95 ?_
  refine z_land ho dL_809 rfl ?_
  refine z_lor ho dL_810 rfl ?_
  refine z_calll ho vy_X11_item ml_L_97 o_0 (C_X11_item h1) rfl rfl (Nat.le_of_ble_eq_true rfl) (Nat.le_of_ble_eq_true rfl) dL_811 rfl ?_
  refine z_al2 ho dL_814 rfl ?_
  refine z_arg ho 1 (by decide) (by omega) dL_815 dL_816 dL_817 dL_818 dL_819 rfl ?_
  refine z_arg ho 2 (by decide) (by omega) dL_820 dL_821 dL_822 dL_823 dL_824 rfl ?_
  refine z_arg ho 3 (by decide) (by omega) dL_825 dL_826 dL_827 dL_828 dL_829 rfl ?_
  refine z_arg ho 4 (by decide) (by omega) dL_830 dL_831 dL_832 dL_833 dL_834 rfl ?_
  refine z_i2l ho dL_835 rfl ?_
  refine z_bip (v := 32) ho dL_836 rfl (by decide) ?_
  refine z_lshl ho dL_838 rfl ?_
  refine z_arg ho 5 (by decide) (by omega) dL_839 dL_840 dL_841 dL_842 dL_843 rfl ?_
  refine z_i2l ho dL_844 rfl ?_
  refine z_ldc2 ho dL_845 rfl kk_L_95 ?_
  refine z_land ho dL_848 rfl ?_
  refine z_lor ho dL_849 rfl ?_
  refine z_calll ho vy_X12_item ml_L_101 o_82 (C_X12_item h2) rfl rfl (Nat.le_of_ble_eq_true rfl) (Nat.le_of_ble_eq_true rfl) dL_850 rfl ?_
  exact z_leq ho dL_853 dL_854 (by decide) (hk σ2 hI2)
theorem zc_20 (ho : zOk G) (hj : j + 7 ≤ zL G) (hI : Inv σ) (hk : ∀ τ, Inv τ → zAt G j 1232 [] τ) : zAt G j 859 [] σ := by
  obtain ⟨r, σ1, σ2, h1, h2, hI2⟩ := step_copy hI (zx G (j + 1)) (zx G (j + 2)) (zx G (j + 3)) (zx G (j + 4)) (zx G (j + 5))
  refine z_al1 ho dL_859 rfl ?_
  refine z_arg ho 1 (by decide) (by omega) dL_860 dL_861 dL_862 dL_863 dL_864 rfl ?_
  refine z_arg ho 2 (by decide) (by omega) dL_865 dL_866 dL_867 dL_868 dL_869 rfl ?_
  refine z_arg ho 3 (by decide) (by omega) dL_870 dL_871 dL_872 dL_873 dL_874 rfl ?_
  refine z_arg ho 4 (by decide) (by omega) dL_875 dL_876 dL_877 dL_878 dL_879 rfl ?_
  refine z_arg ho 5 (by decide) (by omega) dL_880 dL_881 dL_882 dL_883 dL_884 rfl ?_
  refine z_calli ho vy_X11_copy ml_L_102 o_0 (C_X11_copy h1) rfl rfl (Nat.le_of_ble_eq_true rfl) (Nat.le_of_ble_eq_true rfl) dL_885 rfl ?_
  refine z_al2 ho dL_888 rfl ?_
  refine z_arg ho 1 (by decide) (by omega) dL_889 dL_890 dL_891 dL_892 dL_893 rfl ?_
  refine z_arg ho 2 (by decide) (by omega) dL_894 dL_895 dL_896 dL_897 dL_898 rfl ?_
  refine z_arg ho 3 (by decide) (by omega) dL_899 dL_900 dL_901 dL_902 dL_903 rfl ?_
  refine z_arg ho 4 (by decide) (by omega) dL_904 dL_905 dL_906 dL_907 dL_908 rfl ?_
  refine z_arg ho 5 (by decide) (by omega) dL_909 dL_910 dL_911 dL_912 dL_913 rfl ?_
  refine z_calli ho vy_X12_copy ml_L_106 o_82 (C_X12_copy h2) rfl rfl (Nat.le_of_ble_eq_true rfl) (Nat.le_of_ble_eq_true rfl) dL_914 rfl ?_
  exact z_eq ho dL_917 (by decide) (hk σ2 hI2)
theorem zc_21 (ho : zOk G) (hj : j + 7 ≤ zL G) (hI : Inv σ) (hk : ∀ τ, Inv τ → zAt G j 1232 [] τ) : zAt G j 922 [] σ := by
  obtain ⟨r, σ1, σ2, h1, h2, hI2⟩ := step_log hI (zx G (j + 1)) (zx G (j + 2)) (zx G (j + 3))
  refine z_al1 ho dL_922 rfl ?_
  refine z_arg ho 1 (by decide) (by omega) dL_923 dL_924 dL_925 dL_926 dL_927 rfl ?_
  refine z_arg ho 2 (by decide) (by omega) dL_928 dL_929 dL_930 dL_931 dL_932 rfl ?_
  refine z_arg ho 3 (by decide) (by omega) dL_933 dL_934 dL_935 dL_936 dL_937 rfl ?_
  refine z_calli ho vy_X11_log ml_L_107 o_0 (C_X11_log h1) rfl rfl (Nat.le_of_ble_eq_true rfl) (Nat.le_of_ble_eq_true rfl) dL_938 rfl ?_
  refine z_al2 ho dL_941 rfl ?_
  refine z_arg ho 1 (by decide) (by omega) dL_942 dL_943 dL_944 dL_945 dL_946 rfl ?_
  refine z_arg ho 2 (by decide) (by omega) dL_947 dL_948 dL_949 dL_950 dL_951 rfl ?_
  refine z_arg ho 3 (by decide) (by omega) dL_952 dL_953 dL_954 dL_955 dL_956 rfl ?_
  refine z_calli ho vy_X12_log ml_L_110 o_82 (C_X12_log h2) rfl rfl (Nat.le_of_ble_eq_true rfl) (Nat.le_of_ble_eq_true rfl) dL_957 rfl ?_
  exact z_eq ho dL_960 (by decide) (hk σ2 hI2)
theorem zc_22 (ho : zOk G) (hj : j + 7 ≤ zL G) (hI : Inv σ) (hk : ∀ τ, Inv τ → zAt G j 1232 [] τ) : zAt G j 965 [] σ := by
  obtain ⟨r, σ1, σ2, h1, h2, hI2⟩ := step_ahead hI (zx G (j + 1)) (zx G (j + 2)) (zx G (j + 3)) (zx G (j + 4)) (zx G (j + 5)) (zx G (j + 6))
  refine z_al1 ho dL_965 rfl ?_
  refine z_arg ho 1 (by decide) (by omega) dL_966 dL_967 dL_968 dL_969 dL_970 rfl ?_
  refine z_arg ho 2 (by decide) (by omega) dL_971 dL_972 dL_973 dL_974 dL_975 rfl ?_
  refine z_arg ho 3 (by decide) (by omega) dL_976 dL_977 dL_978 dL_979 dL_980 rfl ?_
  refine z_arg ho 4 (by decide) (by omega) dL_981 dL_982 dL_983 dL_984 dL_985 rfl ?_
  refine z_arg ho 5 (by decide) (by omega) dL_986 dL_987 dL_988 dL_989 dL_990 rfl ?_
  refine z_arg6 ho 6 (by decide) (by omega) dL_991 dL_992 dL_993 dL_995 dL_996 rfl ?_
  refine z_calli ho vy_X11_ahead ml_L_111 o_0 (C_X11_ahead h1) rfl rfl (Nat.le_of_ble_eq_true rfl) (Nat.le_of_ble_eq_true rfl) dL_997 rfl ?_
  refine z_al2 ho dL_1000 rfl ?_
  refine z_arg ho 1 (by decide) (by omega) dL_1001 dL_1002 dL_1003 dL_1004 dL_1005 rfl ?_
  refine z_arg ho 2 (by decide) (by omega) dL_1006 dL_1007 dL_1008 dL_1009 dL_1010 rfl ?_
  refine z_arg ho 3 (by decide) (by omega) dL_1011 dL_1012 dL_1013 dL_1014 dL_1015 rfl ?_
  refine z_arg ho 4 (by decide) (by omega) dL_1016 dL_1017 dL_1018 dL_1019 dL_1020 rfl ?_
  refine z_arg ho 5 (by decide) (by omega) dL_1021 dL_1022 dL_1023 dL_1024 dL_1025 rfl ?_
  refine z_arg6 ho 6 (by decide) (by omega) dL_1026 dL_1027 dL_1028 dL_1030 dL_1031 rfl ?_
  refine z_calli ho vy_X12_ahead ml_L_114 o_82 (C_X12_ahead h2) rfl rfl (Nat.le_of_ble_eq_true rfl) (Nat.le_of_ble_eq_true rfl) dL_1032 rfl ?_
  exact z_eq ho dL_1035 (by decide) (hk σ2 hI2)
theorem zc_23 (ho : zOk G) (hj : j + 7 ≤ zL G) (hI : Inv σ) (hk : ∀ τ, Inv τ → zAt G j 1232 [] τ) : zAt G j 1040 [] σ := by
  obtain ⟨r, σ1, σ2, h1, h2, hI2⟩ := step_round hI (zx G (j + 1)) (zx G (j + 2)) (zx G (j + 3)) (zx G (j + 4)) (zx G (j + 5))
  refine z_al1 ho dL_1040 rfl ?_
  refine z_arg ho 1 (by decide) (by omega) dL_1041 dL_1042 dL_1043 dL_1044 dL_1045 rfl ?_
  refine z_arg ho 2 (by decide) (by omega) dL_1046 dL_1047 dL_1048 dL_1049 dL_1050 rfl ?_
  refine z_arg ho 3 (by decide) (by omega) dL_1051 dL_1052 dL_1053 dL_1054 dL_1055 rfl ?_
  refine z_arg ho 4 (by decide) (by omega) dL_1056 dL_1057 dL_1058 dL_1059 dL_1060 rfl ?_
  refine z_arg ho 5 (by decide) (by omega) dL_1061 dL_1062 dL_1063 dL_1064 dL_1065 rfl ?_
  refine z_calli ho vy_X11_round ml_L_115 o_0 (C_X11_round h1) rfl rfl (Nat.le_of_ble_eq_true rfl) (Nat.le_of_ble_eq_true rfl) dL_1066 rfl ?_
  refine z_al2 ho dL_1069 rfl ?_
  refine z_arg ho 1 (by decide) (by omega) dL_1070 dL_1071 dL_1072 dL_1073 dL_1074 rfl ?_
  refine z_arg ho 2 (by decide) (by omega) dL_1075 dL_1076 dL_1077 dL_1078 dL_1079 rfl ?_
  refine z_arg ho 3 (by decide) (by omega) dL_1080 dL_1081 dL_1082 dL_1083 dL_1084 rfl ?_
  refine z_arg ho 4 (by decide) (by omega) dL_1085 dL_1086 dL_1087 dL_1088 dL_1089 rfl ?_
  refine z_arg ho 5 (by decide) (by omega) dL_1090 dL_1091 dL_1092 dL_1093 dL_1094 rfl ?_
  refine z_calli ho vy_X12_round ml_L_118 o_82 (C_X12_round h2) rfl rfl (Nat.le_of_ble_eq_true rfl) (Nat.le_of_ble_eq_true rfl) dL_1095 rfl ?_
  exact z_eq ho dL_1098 (by decide) (hk σ2 hI2)
theorem zc_24 (ho : zOk G) (hj : j + 7 ≤ zL G) (hI : Inv σ) (hk : ∀ τ, Inv τ → zAt G j 1232 [] τ) : zAt G j 1103 [] σ := by
  obtain ⟨r, h1, h2⟩ := step_kinds hI (zx G (j + 1)) (zx G (j + 2)) (zx G (j + 3)) (zx G (j + 4)) (zx G (j + 5))
  refine z_al1 ho dL_1103 rfl ?_
  refine z_arg ho 1 (by decide) (by omega) dL_1104 dL_1105 dL_1106 dL_1107 dL_1108 rfl ?_
  refine z_arg ho 2 (by decide) (by omega) dL_1109 dL_1110 dL_1111 dL_1112 dL_1113 rfl ?_
  refine z_arg ho 3 (by decide) (by omega) dL_1114 dL_1115 dL_1116 dL_1117 dL_1118 rfl ?_
  refine z_arg ho 4 (by decide) (by omega) dL_1119 dL_1120 dL_1121 dL_1122 dL_1123 rfl ?_
  refine z_arg ho 5 (by decide) (by omega) dL_1124 dL_1125 dL_1126 dL_1127 dL_1128 rfl ?_
  refine z_calli ho vy_X11_kinds ml_L_119 o_0 (C_X11_kinds h1) rfl rfl (Nat.le_of_ble_eq_true rfl) (Nat.le_of_ble_eq_true rfl) dL_1129 rfl ?_
  refine z_al2 ho dL_1132 rfl ?_
  refine z_arg ho 1 (by decide) (by omega) dL_1133 dL_1134 dL_1135 dL_1136 dL_1137 rfl ?_
  refine z_arg ho 2 (by decide) (by omega) dL_1138 dL_1139 dL_1140 dL_1141 dL_1142 rfl ?_
  refine z_arg ho 3 (by decide) (by omega) dL_1143 dL_1144 dL_1145 dL_1146 dL_1147 rfl ?_
  refine z_arg ho 4 (by decide) (by omega) dL_1148 dL_1149 dL_1150 dL_1151 dL_1152 rfl ?_
  refine z_arg ho 5 (by decide) (by omega) dL_1153 dL_1154 dL_1155 dL_1156 dL_1157 rfl ?_
  refine z_calli ho vy_X12_kinds ml_L_122 o_82 (C_X12_kinds h2) rfl rfl (Nat.le_of_ble_eq_true rfl) (Nat.le_of_ble_eq_true rfl) dL_1158 rfl ?_
  exact z_eq ho dL_1161 (by decide) (hk σ hI)
theorem zc_25 (ho : zOk G) (hj : j + 7 ≤ zL G) (hI : Inv σ) (hk : ∀ τ, Inv τ → zAt G j 1232 [] τ) : zAt G j 1166 [] σ := by
  obtain ⟨r, h1, h2⟩ := step_wishes hI (zx G (j + 1)) (zx G (j + 2)) (zx G (j + 3))
  refine z_al1 ho dL_1166 rfl ?_
  refine z_arg ho 1 (by decide) (by omega) dL_1167 dL_1168 dL_1169 dL_1170 dL_1171 rfl ?_
  refine z_arg ho 2 (by decide) (by omega) dL_1172 dL_1173 dL_1174 dL_1175 dL_1176 rfl ?_
  refine z_arg ho 3 (by decide) (by omega) dL_1177 dL_1178 dL_1179 dL_1180 dL_1181 rfl ?_
  refine z_calli ho vy_X11_wishes ml_L_123 o_0 (C_X11_wishes h1) rfl rfl (Nat.le_of_ble_eq_true rfl) (Nat.le_of_ble_eq_true rfl) dL_1182 rfl ?_
  refine z_al2 ho dL_1185 rfl ?_
  refine z_arg ho 1 (by decide) (by omega) dL_1186 dL_1187 dL_1188 dL_1189 dL_1190 rfl ?_
  refine z_arg ho 2 (by decide) (by omega) dL_1191 dL_1192 dL_1193 dL_1194 dL_1195 rfl ?_
  refine z_arg ho 3 (by decide) (by omega) dL_1196 dL_1197 dL_1198 dL_1199 dL_1200 rfl ?_
  refine z_calli ho vy_X12_wishes ml_L_126 o_82 (C_X12_wishes h2) rfl rfl (Nat.le_of_ble_eq_true rfl) (Nat.le_of_ble_eq_true rfl) dL_1201 rfl ?_
  exact z_eq ho dL_1204 (by decide) (hk σ hI)
theorem zc_26 (ho : zOk G) (hj : j + 7 ≤ zL G) (hI : Inv σ) (hk : ∀ τ, Inv τ → zAt G j 1232 [] τ) : zAt G j 1209 [] σ := by
  obtain ⟨r, h1, h2⟩ := step_count hI (zx G (j + 1))
  refine z_al1 ho dL_1209 rfl ?_
  refine z_arg ho 1 (by decide) (by omega) dL_1210 dL_1211 dL_1212 dL_1213 dL_1214 rfl ?_
  refine z_calli ho vy_X11_count ml_L_127 o_0 (C_X11_count h1) rfl rfl (Nat.le_of_ble_eq_true rfl) (Nat.le_of_ble_eq_true rfl) dL_1215 rfl ?_
  refine z_al2 ho dL_1218 rfl ?_
  refine z_arg ho 1 (by decide) (by omega) dL_1219 dL_1220 dL_1221 dL_1222 dL_1223 rfl ?_
  refine z_calli ho vy_X12_count ml_L_130 o_82 (C_X12_count h2) rfl rfl (Nat.le_of_ble_eq_true rfl) (Nat.le_of_ble_eq_true rfl) dL_1224 rfl ?_
  exact z_eq ho dL_1227 (by decide) (hk σ hI)
end ZCASES
