/-! the law: its cases -/
theorem ll_count {F : LkF} {w : Wd} {A1 A2 : Nat → Nat → Nat} {b L i : Nat} {xs : Nat → Int32} {Q : State → Prop} {M N : Mem} (C : ll_X F w A1 A2 b L xs) (hi : i + 7 ≤ L) (hC : Cp M N) (nx : ∀ M1 N1, Cp M1 N1 → ll_W F w Q (ll_I w A1 A2 M1 N1) 1449 (ll_l b A1 A2 i) []) : ll_W F w Q (ll_I w A1 A2 M N) 200 (ll_l b A1 A2 i) [] := by
  obtain ⟨Q1, Q2, o1, o2, fin⟩ := st_count (xs (i + 1)) (wa w A1) (wa w A2) 58 10 M N (by decide) (by decide) hC
  refine lk_ald C.1 a_L_200 rfl ?_
  refine ll_arg (k := 1) C a_L_201 a_L_202 a_L_203 a_L_204 a_L_205 hi (by decide) ?_
  refine ll_c1 (as := [vi (xs (i + 1))]) C a_L_206 mv_X6_count ml_L_13 rfl o1 rfl rfl (fun r M1 h1 => ?_)
  refine lk_ald C.1 a_L_209 rfl ?_
  refine ll_arg (k := 1) C a_L_210 a_L_211 a_L_212 a_L_213 a_L_214 hi (by decide) ?_
  refine ll_c2 (as := [vi (xs (i + 1))]) C a_L_215 mv_X7_count ml_L_17 rfl o2 rfl rfl (fun r1 N1 h2 => ?_)
  obtain ⟨hv, hC1⟩ := fin _ _ _ _ h1 h2
  exact ll_eqI C a_L_218 hv (nx _ _ hC1)
theorem ll_winters {F : LkF} {w : Wd} {A1 A2 : Nat → Nat → Nat} {b L i : Nat} {xs : Nat → Int32} {Q : State → Prop} {M N : Mem} (C : ll_X F w A1 A2 b L xs) (hi : i + 7 ≤ L) (hC : Cp M N) (nx : ∀ M1 N1, Cp M1 N1 → ll_W F w Q (ll_I w A1 A2 M1 N1) 1449 (ll_l b A1 A2 i) []) : ll_W F w Q (ll_I w A1 A2 M N) 223 (ll_l b A1 A2 i) [] := by
  obtain ⟨Q1, Q2, o1, o2, fin⟩ := st_winters (xs (i + 1)) (wa w A1) (wa w A2) 58 10 M N (by decide) (by decide) hC
  refine lk_ald C.1 a_L_223 rfl ?_
  refine ll_arg (k := 1) C a_L_224 a_L_225 a_L_226 a_L_227 a_L_228 hi (by decide) ?_
  refine ll_c1 (as := [vi (xs (i + 1))]) C a_L_229 mv_X6_winters ml_L_18 rfl o1 rfl rfl (fun r M1 h1 => ?_)
  refine lk_ald C.1 a_L_232 rfl ?_
  refine ll_arg (k := 1) C a_L_233 a_L_234 a_L_235 a_L_236 a_L_237 hi (by decide) ?_
  refine ll_c2 (as := [vi (xs (i + 1))]) C a_L_238 mv_X7_winters ml_L_21 rfl o2 rfl rfl (fun r1 N1 h2 => ?_)
  obtain ⟨hv, hC1⟩ := fin _ _ _ _ h1 h2
  exact ll_eqI C a_L_241 hv (nx _ _ hC1)
theorem ll_feed {F : LkF} {w : Wd} {A1 A2 : Nat → Nat → Nat} {b L i : Nat} {xs : Nat → Int32} {Q : State → Prop} {M N : Mem} (C : ll_X F w A1 A2 b L xs) (hi : i + 7 ≤ L) (hC : Cp M N) (nx : ∀ M1 N1, Cp M1 N1 → ll_W F w Q (ll_I w A1 A2 M1 N1) 1449 (ll_l b A1 A2 i) []) : ll_W F w Q (ll_I w A1 A2 M N) 246 (ll_l b A1 A2 i) [] := by
  obtain ⟨Q1, Q2, o1, o2, fin⟩ := st_feed (xs (i + 1)) (xs (i + 2)) (xs (i + 3)) (xs (i + 4)) (xs (i + 5)) (xs (i + 6)) (wa w A1) (wa w A2) 58 10 M N (by decide) (by decide) hC
  refine lk_ald C.1 a_L_246 rfl ?_
  refine ll_arg (k := 1) C a_L_247 a_L_248 a_L_249 a_L_250 a_L_251 hi (by decide) ?_
  refine ll_arg (k := 2) C a_L_252 a_L_253 a_L_254 a_L_255 a_L_256 hi (by decide) ?_
  refine ll_arg (k := 3) C a_L_257 a_L_258 a_L_259 a_L_260 a_L_261 hi (by decide) ?_
  refine ll_arg (k := 4) C a_L_262 a_L_263 a_L_264 a_L_265 a_L_266 hi (by decide) ?_
  refine ll_arg (k := 5) C a_L_267 a_L_268 a_L_269 a_L_270 a_L_271 hi (by decide) ?_
  refine ll_arg (k := 6) C a_L_272 a_L_273 a_L_274 a_L_276 a_L_277 hi (by decide) ?_
  refine ll_c1 (as := [vi (xs (i + 1)), vi (xs (i + 2)), vi (xs (i + 3)), vi (xs (i + 4)), vi (xs (i + 5)), vi (xs (i + 6))]) C a_L_278 mv_X6_feed ml_L_22 rfl o1 rfl rfl (fun r M1 h1 => ?_)
  refine lk_ald C.1 a_L_281 rfl ?_
  refine ll_arg (k := 1) C a_L_282 a_L_283 a_L_284 a_L_285 a_L_286 hi (by decide) ?_
  refine ll_arg (k := 2) C a_L_287 a_L_288 a_L_289 a_L_290 a_L_291 hi (by decide) ?_
  refine ll_arg (k := 3) C a_L_292 a_L_293 a_L_294 a_L_295 a_L_296 hi (by decide) ?_
  refine ll_arg (k := 4) C a_L_297 a_L_298 a_L_299 a_L_300 a_L_301 hi (by decide) ?_
  refine ll_arg (k := 5) C a_L_302 a_L_303 a_L_304 a_L_305 a_L_306 hi (by decide) ?_
  refine ll_arg (k := 6) C a_L_307 a_L_308 a_L_309 a_L_311 a_L_312 hi (by decide) ?_
  refine ll_c2 (as := [vi (xs (i + 1)), vi (xs (i + 2)), vi (xs (i + 3)), vi (xs (i + 4)), vi (xs (i + 5)), vi (xs (i + 6))]) C a_L_313 mv_X7_feed ml_L_26 rfl o2 rfl rfl (fun r1 N1 h2 => ?_)
  obtain ⟨hv, hC1⟩ := fin _ _ _ _ h1 h2
  exact ll_eqI C a_L_316 hv (nx _ _ hC1)
theorem ll_text {F : LkF} {w : Wd} {A1 A2 : Nat → Nat → Nat} {b L i : Nat} {xs : Nat → Int32} {Q : State → Prop} {M N : Mem} (C : ll_X F w A1 A2 b L xs) (hi : i + 7 ≤ L) (hC : Cp M N) (nx : ∀ M1 N1, Cp M1 N1 → ll_W F w Q (ll_I w A1 A2 M1 N1) 1449 (ll_l b A1 A2 i) []) : ll_W F w Q (ll_I w A1 A2 M N) 321 (ll_l b A1 A2 i) [] := by
  obtain ⟨Q1, Q2, o1, o2, fin⟩ := st_text (wa w A1) (wa w A2) 58 10 M N (by decide) (by decide) hC
  refine lk_ald C.1 a_L_321 rfl ?_
  refine ll_c1 (as := []) C a_L_322 mv_X6_text ml_L_27 rfl o1 rfl rfl (fun r M1 h1 => ?_)
  refine lk_ald C.1 a_L_325 rfl ?_
  refine ll_c2 (as := []) C a_L_326 mv_X7_text ml_L_31 rfl o2 rfl rfl (fun r1 N1 h2 => ?_)
  obtain ⟨hv, hC1⟩ := fin _ _ _ _ h1 h2
  exact ll_eqI C a_L_329 hv (nx _ _ hC1)
theorem ll_force {F : LkF} {w : Wd} {A1 A2 : Nat → Nat → Nat} {b L i : Nat} {xs : Nat → Int32} {Q : State → Prop} {M N : Mem} (C : ll_X F w A1 A2 b L xs) (hi : i + 7 ≤ L) (hC : Cp M N) (nx : ∀ M1 N1, Cp M1 N1 → ll_W F w Q (ll_I w A1 A2 M1 N1) 1449 (ll_l b A1 A2 i) []) : ll_W F w Q (ll_I w A1 A2 M N) 334 (ll_l b A1 A2 i) [] := by
  obtain ⟨Q1, Q2, o1, o2, fin⟩ := st_force (xs (i + 1)) (wa w A1) (wa w A2) 58 10 M N (by decide) (by decide) hC
  refine lk_ald C.1 a_L_334 rfl ?_
  refine ll_arg (k := 1) C a_L_335 a_L_336 a_L_337 a_L_338 a_L_339 hi (by decide) ?_
  refine ll_c1 (as := [vi (xs (i + 1))]) C a_L_340 mv_X6_force ml_L_32 rfl o1 rfl rfl (fun r M1 h1 => ?_)
  refine lk_ald C.1 a_L_343 rfl ?_
  refine ll_arg (k := 1) C a_L_344 a_L_345 a_L_346 a_L_347 a_L_348 hi (by decide) ?_
  refine ll_c2 (as := [vi (xs (i + 1))]) C a_L_349 mv_X7_force ml_L_35 rfl o2 rfl rfl (fun r1 N1 h2 => ?_)
  obtain ⟨hv, hC1⟩ := fin _ _ _ _ h1 h2
  exact ll_eqI C a_L_352 hv (nx _ _ hC1)
theorem ll_asks {F : LkF} {w : Wd} {A1 A2 : Nat → Nat → Nat} {b L i : Nat} {xs : Nat → Int32} {Q : State → Prop} {M N : Mem} (C : ll_X F w A1 A2 b L xs) (hi : i + 7 ≤ L) (hC : Cp M N) (nx : ∀ M1 N1, Cp M1 N1 → ll_W F w Q (ll_I w A1 A2 M1 N1) 1449 (ll_l b A1 A2 i) []) : ll_W F w Q (ll_I w A1 A2 M N) 357 (ll_l b A1 A2 i) [] := by
  obtain ⟨Q1, Q2, o1, o2, fin⟩ := st_asks (xs (i + 1)) (xs (i + 2)) (xs (i + 3)) (wa w A1) (wa w A2) 58 10 M N (by decide) (by decide) hC
  refine lk_ald C.1 a_L_357 rfl ?_
  refine ll_arg (k := 1) C a_L_358 a_L_359 a_L_360 a_L_361 a_L_362 hi (by decide) ?_
  refine ll_arg (k := 2) C a_L_363 a_L_364 a_L_365 a_L_366 a_L_367 hi (by decide) ?_
  refine ll_arg (k := 3) C a_L_368 a_L_369 a_L_370 a_L_371 a_L_372 hi (by decide) ?_
  refine ll_c1 (as := [vi (xs (i + 1)), vi (xs (i + 2)), vi (xs (i + 3))]) C a_L_373 mv_X6_asks ml_L_36 rfl o1 rfl rfl (fun r M1 h1 => ?_)
  refine lk_ald C.1 a_L_376 rfl ?_
  refine ll_arg (k := 1) C a_L_377 a_L_378 a_L_379 a_L_380 a_L_381 hi (by decide) ?_
  refine ll_arg (k := 2) C a_L_382 a_L_383 a_L_384 a_L_385 a_L_386 hi (by decide) ?_
  refine ll_arg (k := 3) C a_L_387 a_L_388 a_L_389 a_L_390 a_L_391 hi (by decide) ?_
  refine ll_c2 (as := [vi (xs (i + 1)), vi (xs (i + 2)), vi (xs (i + 3))]) C a_L_392 mv_X7_asks ml_L_40 rfl o2 rfl rfl (fun r1 N1 h2 => ?_)
  obtain ⟨hv, hC1⟩ := fin _ _ _ _ h1 h2
  exact ll_eqI C a_L_395 hv (nx _ _ hC1)
theorem ll_person {F : LkF} {w : Wd} {A1 A2 : Nat → Nat → Nat} {b L i : Nat} {xs : Nat → Int32} {Q : State → Prop} {M N : Mem} (C : ll_X F w A1 A2 b L xs) (hi : i + 7 ≤ L) (hC : Cp M N) (nx : ∀ M1 N1, Cp M1 N1 → ll_W F w Q (ll_I w A1 A2 M1 N1) 1449 (ll_l b A1 A2 i) []) : ll_W F w Q (ll_I w A1 A2 M N) 400 (ll_l b A1 A2 i) [] := by
  obtain ⟨Q1, Q2, o1, o2, fin⟩ := st_person (xs (i + 1)) (xs (i + 2)) (wa w A1) (wa w A2) 58 10 M N (by decide) (by decide) hC
  refine lk_ald C.1 a_L_400 rfl ?_
  refine ll_arg (k := 1) C a_L_401 a_L_402 a_L_403 a_L_404 a_L_405 hi (by decide) ?_
  refine ll_arg (k := 2) C a_L_406 a_L_407 a_L_408 a_L_409 a_L_410 hi (by decide) ?_
  refine ll_c1 (as := [vi (xs (i + 1)), vi (xs (i + 2))]) C a_L_411 mv_X6_person ml_L_41 rfl o1 rfl rfl (fun r M1 h1 => ?_)
  refine lk_ald C.1 a_L_414 rfl ?_
  refine ll_arg (k := 1) C a_L_415 a_L_416 a_L_417 a_L_418 a_L_419 hi (by decide) ?_
  refine ll_arg (k := 2) C a_L_420 a_L_421 a_L_422 a_L_423 a_L_424 hi (by decide) ?_
  refine ll_c2 (as := [vi (xs (i + 1)), vi (xs (i + 2))]) C a_L_425 mv_X7_person ml_L_45 rfl o2 rfl rfl (fun r1 N1 h2 => ?_)
  obtain ⟨hv, hC1⟩ := fin _ _ _ _ h1 h2
  exact ll_eqI C a_L_428 hv (nx _ _ hC1)
theorem ll_put {F : LkF} {w : Wd} {A1 A2 : Nat → Nat → Nat} {b L i : Nat} {xs : Nat → Int32} {Q : State → Prop} {M N : Mem} (C : ll_X F w A1 A2 b L xs) (hi : i + 7 ≤ L) (hC : Cp M N) (nx : ∀ M1 N1, Cp M1 N1 → ll_W F w Q (ll_I w A1 A2 M1 N1) 1449 (ll_l b A1 A2 i) []) : ll_W F w Q (ll_I w A1 A2 M N) 433 (ll_l b A1 A2 i) [] := by
  obtain ⟨Q1, Q2, o1, o2, fin⟩ := st_put (xs (i + 1)) (xs (i + 2)) (xs (i + 3)) (wa w A1) (wa w A2) 58 10 M N (by decide) (by decide) hC
  refine lk_ald C.1 a_L_433 rfl ?_
  refine ll_arg (k := 1) C a_L_434 a_L_435 a_L_436 a_L_437 a_L_438 hi (by decide) ?_
  refine ll_arg (k := 2) C a_L_439 a_L_440 a_L_441 a_L_442 a_L_443 hi (by decide) ?_
  refine ll_arg (k := 3) C a_L_444 a_L_445 a_L_446 a_L_447 a_L_448 hi (by decide) ?_
  refine ll_c1 (as := [vi (xs (i + 1)), vi (xs (i + 2)), vi (xs (i + 3))]) C a_L_449 mv_X6_put ml_L_46 rfl o1 rfl rfl (fun r M1 h1 => ?_)
  refine lk_ald C.1 a_L_452 rfl ?_
  refine ll_arg (k := 1) C a_L_453 a_L_454 a_L_455 a_L_456 a_L_457 hi (by decide) ?_
  refine ll_arg (k := 2) C a_L_458 a_L_459 a_L_460 a_L_461 a_L_462 hi (by decide) ?_
  refine ll_arg (k := 3) C a_L_463 a_L_464 a_L_465 a_L_466 a_L_467 hi (by decide) ?_
  refine ll_c2 (as := [vi (xs (i + 1)), vi (xs (i + 2)), vi (xs (i + 3))]) C a_L_468 mv_X7_put ml_L_49 rfl o2 rfl rfl (fun r1 N1 h2 => ?_)
  obtain ⟨hv, hC1⟩ := fin _ _ _ _ h1 h2
  exact ll_eqI C a_L_471 hv (nx _ _ hC1)
theorem ll_feud {F : LkF} {w : Wd} {A1 A2 : Nat → Nat → Nat} {b L i : Nat} {xs : Nat → Int32} {Q : State → Prop} {M N : Mem} (C : ll_X F w A1 A2 b L xs) (hi : i + 7 ≤ L) (hC : Cp M N) (nx : ∀ M1 N1, Cp M1 N1 → ll_W F w Q (ll_I w A1 A2 M1 N1) 1449 (ll_l b A1 A2 i) []) : ll_W F w Q (ll_I w A1 A2 M N) 476 (ll_l b A1 A2 i) [] := by
  obtain ⟨Q1, Q2, o1, o2, fin⟩ := st_feud (xs (i + 1)) (xs (i + 2)) (xs (i + 3)) (wa w A1) (wa w A2) 58 10 M N (by decide) (by decide) hC
  refine lk_ald C.1 a_L_476 rfl ?_
  refine ll_arg (k := 1) C a_L_477 a_L_478 a_L_479 a_L_480 a_L_481 hi (by decide) ?_
  refine ll_arg (k := 2) C a_L_482 a_L_483 a_L_484 a_L_485 a_L_486 hi (by decide) ?_
  refine ll_arg (k := 3) C a_L_487 a_L_488 a_L_489 a_L_490 a_L_491 hi (by decide) ?_
  refine ll_c1 (as := [vi (xs (i + 1)), vi (xs (i + 2)), vi (xs (i + 3))]) C a_L_492 mv_X6_feud ml_L_50 rfl o1 rfl rfl (fun r M1 h1 => ?_)
  refine lk_ald C.1 a_L_495 rfl ?_
  refine ll_arg (k := 1) C a_L_496 a_L_497 a_L_498 a_L_499 a_L_500 hi (by decide) ?_
  refine ll_arg (k := 2) C a_L_501 a_L_502 a_L_503 a_L_504 a_L_505 hi (by decide) ?_
  refine ll_arg (k := 3) C a_L_506 a_L_507 a_L_508 a_L_509 a_L_510 hi (by decide) ?_
  refine ll_c2 (as := [vi (xs (i + 1)), vi (xs (i + 2)), vi (xs (i + 3))]) C a_L_511 mv_X7_feud ml_L_53 rfl o2 rfl rfl (fun r1 N1 h2 => ?_)
  obtain ⟨hv, hC1⟩ := fin _ _ _ _ h1 h2
  exact ll_eqI C a_L_514 hv (nx _ _ hC1)
theorem ll_told {F : LkF} {w : Wd} {A1 A2 : Nat → Nat → Nat} {b L i : Nat} {xs : Nat → Int32} {Q : State → Prop} {M N : Mem} (C : ll_X F w A1 A2 b L xs) (hi : i + 7 ≤ L) (hC : Cp M N) (nx : ∀ M1 N1, Cp M1 N1 → ll_W F w Q (ll_I w A1 A2 M1 N1) 1449 (ll_l b A1 A2 i) []) : ll_W F w Q (ll_I w A1 A2 M N) 519 (ll_l b A1 A2 i) [] := by
  obtain ⟨Q1, Q2, o1, o2, fin⟩ := st_told (xs (i + 1)) (xs (i + 2)) (wa w A1) (wa w A2) 58 10 M N (by decide) (by decide) hC
  refine lk_ald C.1 a_L_519 rfl ?_
  refine ll_arg (k := 1) C a_L_520 a_L_521 a_L_522 a_L_523 a_L_524 hi (by decide) ?_
  refine ll_arg (k := 2) C a_L_525 a_L_526 a_L_527 a_L_528 a_L_529 hi (by decide) ?_
  refine ll_c1 (as := [vi (xs (i + 1)), vi (xs (i + 2))]) C a_L_530 mv_X6_told ml_L_54 rfl o1 rfl rfl (fun r M1 h1 => ?_)
  refine lk_ald C.1 a_L_533 rfl ?_
  refine ll_arg (k := 1) C a_L_534 a_L_535 a_L_536 a_L_537 a_L_538 hi (by decide) ?_
  refine ll_arg (k := 2) C a_L_539 a_L_540 a_L_541 a_L_542 a_L_543 hi (by decide) ?_
  refine ll_c2 (as := [vi (xs (i + 1)), vi (xs (i + 2))]) C a_L_544 mv_X7_told ml_L_57 rfl o2 rfl rfl (fun r1 N1 h2 => ?_)
  obtain ⟨hv, hC1⟩ := fin _ _ _ _ h1 h2
  exact ll_eqI C a_L_547 hv (nx _ _ hC1)
theorem ll_ladder {F : LkF} {w : Wd} {A1 A2 : Nat → Nat → Nat} {b L i : Nat} {xs : Nat → Int32} {Q : State → Prop} {M N : Mem} (C : ll_X F w A1 A2 b L xs) (hi : i + 7 ≤ L) (hC : Cp M N) (nx : ∀ M1 N1, Cp M1 N1 → ll_W F w Q (ll_I w A1 A2 M1 N1) 1449 (ll_l b A1 A2 i) []) : ll_W F w Q (ll_I w A1 A2 M N) 552 (ll_l b A1 A2 i) [] := by
  obtain ⟨Q1, Q2, o1, o2, fin⟩ := st_ladder (xs (i + 1)) (wa w A1) (wa w A2) 58 10 M N (by decide) (by decide) hC
  refine lk_ald C.1 a_L_552 rfl ?_
  refine ll_arg (k := 1) C a_L_553 a_L_554 a_L_555 a_L_556 a_L_557 hi (by decide) ?_
  refine ll_c1 (as := [vi (xs (i + 1))]) C a_L_558 mv_X6_ladder ml_L_58 rfl o1 rfl rfl (fun r M1 h1 => ?_)
  refine lk_ald C.1 a_L_561 rfl ?_
  refine ll_arg (k := 1) C a_L_562 a_L_563 a_L_564 a_L_565 a_L_566 hi (by decide) ?_
  refine ll_c2 (as := [vi (xs (i + 1))]) C a_L_567 mv_X7_ladder ml_L_61 rfl o2 rfl rfl (fun r1 N1 h2 => ?_)
  obtain ⟨hv, hC1⟩ := fin _ _ _ _ h1 h2
  exact ll_eqI C a_L_570 hv (nx _ _ hC1)
theorem ll_stand {F : LkF} {w : Wd} {A1 A2 : Nat → Nat → Nat} {b L i : Nat} {xs : Nat → Int32} {Q : State → Prop} {M N : Mem} (C : ll_X F w A1 A2 b L xs) (hi : i + 7 ≤ L) (hC : Cp M N) (nx : ∀ M1 N1, Cp M1 N1 → ll_W F w Q (ll_I w A1 A2 M1 N1) 1449 (ll_l b A1 A2 i) []) : ll_W F w Q (ll_I w A1 A2 M N) 575 (ll_l b A1 A2 i) [] := by
  obtain ⟨Q1, Q2, o1, o2, fin⟩ := st_stand (xs (i + 1)) (xs (i + 2)) (wa w A1) (wa w A2) 58 10 M N (by decide) (by decide) hC
  refine lk_ald C.1 a_L_575 rfl ?_
  refine ll_arg (k := 1) C a_L_576 a_L_577 a_L_578 a_L_579 a_L_580 hi (by decide) ?_
  refine ll_arg (k := 2) C a_L_581 a_L_582 a_L_583 a_L_584 a_L_585 hi (by decide) ?_
  refine ll_c1 (as := [vi (xs (i + 1)), vi (xs (i + 2))]) C a_L_586 mv_X6_stand ml_L_62 rfl o1 rfl rfl (fun r M1 h1 => ?_)
  refine lk_ald C.1 a_L_589 rfl ?_
  refine ll_arg (k := 1) C a_L_590 a_L_591 a_L_592 a_L_593 a_L_594 hi (by decide) ?_
  refine ll_arg (k := 2) C a_L_595 a_L_596 a_L_597 a_L_598 a_L_599 hi (by decide) ?_
  refine ll_c2 (as := [vi (xs (i + 1)), vi (xs (i + 2))]) C a_L_600 mv_X7_stand ml_L_65 rfl o2 rfl rfl (fun r1 N1 h2 => ?_)
  obtain ⟨hv, hC1⟩ := fin _ _ _ _ h1 h2
  exact ll_eqI C a_L_603 hv (nx _ _ hC1)
theorem ll_fire {F : LkF} {w : Wd} {A1 A2 : Nat → Nat → Nat} {b L i : Nat} {xs : Nat → Int32} {Q : State → Prop} {M N : Mem} (C : ll_X F w A1 A2 b L xs) (hi : i + 7 ≤ L) (hC : Cp M N) (nx : ∀ M1 N1, Cp M1 N1 → ll_W F w Q (ll_I w A1 A2 M1 N1) 1449 (ll_l b A1 A2 i) []) : ll_W F w Q (ll_I w A1 A2 M N) 608 (ll_l b A1 A2 i) [] := by
  obtain ⟨Q1, Q2, o1, o2, fin⟩ := st_fire (xs (i + 1)) (xs (i + 2)) (wa w A1) (wa w A2) 58 10 M N (by decide) (by decide) hC
  refine lk_ald C.1 a_L_608 rfl ?_
  refine ll_arg (k := 1) C a_L_609 a_L_610 a_L_611 a_L_612 a_L_613 hi (by decide) ?_
  refine ll_arg (k := 2) C a_L_614 a_L_615 a_L_616 a_L_617 a_L_618 hi (by decide) ?_
  refine ll_c1 (as := [vi (xs (i + 1)), vi (xs (i + 2))]) C a_L_619 mv_X6_fire ml_L_66 rfl o1 rfl rfl (fun r M1 h1 => ?_)
  refine lk_ald C.1 a_L_622 rfl ?_
  refine ll_arg (k := 1) C a_L_623 a_L_624 a_L_625 a_L_626 a_L_627 hi (by decide) ?_
  refine ll_arg (k := 2) C a_L_628 a_L_629 a_L_630 a_L_631 a_L_632 hi (by decide) ?_
  refine ll_c2 (as := [vi (xs (i + 1)), vi (xs (i + 2))]) C a_L_633 mv_X7_fire ml_L_69 rfl o2 rfl rfl (fun r1 N1 h2 => ?_)
  obtain ⟨hv, hC1⟩ := fin _ _ _ _ h1 h2
  exact ll_eqI C a_L_636 hv (nx _ _ hC1)
theorem ll_door {F : LkF} {w : Wd} {A1 A2 : Nat → Nat → Nat} {b L i : Nat} {xs : Nat → Int32} {Q : State → Prop} {M N : Mem} (C : ll_X F w A1 A2 b L xs) (hi : i + 7 ≤ L) (hC : Cp M N) (nx : ∀ M1 N1, Cp M1 N1 → ll_W F w Q (ll_I w A1 A2 M1 N1) 1449 (ll_l b A1 A2 i) []) : ll_W F w Q (ll_I w A1 A2 M N) 641 (ll_l b A1 A2 i) [] := by
  obtain ⟨Q1, Q2, o1, o2, fin⟩ := st_door (xs (i + 1)) (wa w A1) (wa w A2) 58 10 M N (by decide) (by decide) hC
  refine lk_ald C.1 a_L_641 rfl ?_
  refine ll_arg (k := 1) C a_L_642 a_L_643 a_L_644 a_L_645 a_L_646 hi (by decide) ?_
  refine ll_c1 (as := [vi (xs (i + 1))]) C a_L_647 mv_X6_door ml_L_70 rfl o1 rfl rfl (fun r M1 h1 => ?_)
  refine lk_ald C.1 a_L_650 rfl ?_
  refine ll_arg (k := 1) C a_L_651 a_L_652 a_L_653 a_L_654 a_L_655 hi (by decide) ?_
  refine ll_c2 (as := [vi (xs (i + 1))]) C a_L_656 mv_X7_door ml_L_73 rfl o2 rfl rfl (fun r1 N1 h2 => ?_)
  obtain ⟨hv, hC1⟩ := fin _ _ _ _ h1 h2
  exact ll_eqI C a_L_659 hv (nx _ _ hC1)
theorem ll_highest {F : LkF} {w : Wd} {A1 A2 : Nat → Nat → Nat} {b L i : Nat} {xs : Nat → Int32} {Q : State → Prop} {M N : Mem} (C : ll_X F w A1 A2 b L xs) (hi : i + 7 ≤ L) (hC : Cp M N) (nx : ∀ M1 N1, Cp M1 N1 → ll_W F w Q (ll_I w A1 A2 M1 N1) 1449 (ll_l b A1 A2 i) []) : ll_W F w Q (ll_I w A1 A2 M N) 664 (ll_l b A1 A2 i) [] := by
  obtain ⟨Q1, Q2, o1, o2, fin⟩ := st_highest (xs (i + 1)) (xs (i + 2)) (wa w A1) (wa w A2) 58 10 M N (by decide) (by decide) hC
  refine lk_ald C.1 a_L_664 rfl ?_
  refine ll_arg (k := 1) C a_L_665 a_L_666 a_L_667 a_L_668 a_L_669 hi (by decide) ?_
  refine ll_arg (k := 2) C a_L_670 a_L_671 a_L_672 a_L_673 a_L_674 hi (by decide) ?_
  refine ll_c1 (as := [vi (xs (i + 1)), vi (xs (i + 2))]) C a_L_675 mv_X6_highest ml_L_74 rfl o1 rfl rfl (fun r M1 h1 => ?_)
  refine lk_ald C.1 a_L_678 rfl ?_
  refine ll_arg (k := 1) C a_L_679 a_L_680 a_L_681 a_L_682 a_L_683 hi (by decide) ?_
  refine ll_arg (k := 2) C a_L_684 a_L_685 a_L_686 a_L_687 a_L_688 hi (by decide) ?_
  refine ll_c2 (as := [vi (xs (i + 1)), vi (xs (i + 2))]) C a_L_689 mv_X7_highest ml_L_77 rfl o2 rfl rfl (fun r1 N1 h2 => ?_)
  obtain ⟨hv, hC1⟩ := fin _ _ _ _ h1 h2
  exact ll_eqI C a_L_692 hv (nx _ _ hC1)
theorem ll_fewest {F : LkF} {w : Wd} {A1 A2 : Nat → Nat → Nat} {b L i : Nat} {xs : Nat → Int32} {Q : State → Prop} {M N : Mem} (C : ll_X F w A1 A2 b L xs) (hi : i + 7 ≤ L) (hC : Cp M N) (nx : ∀ M1 N1, Cp M1 N1 → ll_W F w Q (ll_I w A1 A2 M1 N1) 1449 (ll_l b A1 A2 i) []) : ll_W F w Q (ll_I w A1 A2 M N) 697 (ll_l b A1 A2 i) [] := by
  obtain ⟨Q1, Q2, o1, o2, fin⟩ := st_fewest (xs (i + 1)) (wa w A1) (wa w A2) 58 10 M N (by decide) (by decide) hC
  refine lk_ald C.1 a_L_697 rfl ?_
  refine ll_arg (k := 1) C a_L_698 a_L_699 a_L_700 a_L_701 a_L_702 hi (by decide) ?_
  refine ll_c1 (as := [vi (xs (i + 1))]) C a_L_703 mv_X6_fewest ml_L_78 rfl o1 rfl rfl (fun r M1 h1 => ?_)
  refine lk_ald C.1 a_L_706 rfl ?_
  refine ll_arg (k := 1) C a_L_707 a_L_708 a_L_709 a_L_710 a_L_711 hi (by decide) ?_
  refine ll_c2 (as := [vi (xs (i + 1))]) C a_L_712 mv_X7_fewest ml_L_81 rfl o2 rfl rfl (fun r1 N1 h2 => ?_)
  obtain ⟨hv, hC1⟩ := fin _ _ _ _ h1 h2
  exact ll_eqI C a_L_715 hv (nx _ _ hC1)
theorem ll_missed {F : LkF} {w : Wd} {A1 A2 : Nat → Nat → Nat} {b L i : Nat} {xs : Nat → Int32} {Q : State → Prop} {M N : Mem} (C : ll_X F w A1 A2 b L xs) (hi : i + 7 ≤ L) (hC : Cp M N) (nx : ∀ M1 N1, Cp M1 N1 → ll_W F w Q (ll_I w A1 A2 M1 N1) 1449 (ll_l b A1 A2 i) []) : ll_W F w Q (ll_I w A1 A2 M N) 720 (ll_l b A1 A2 i) [] := by
  obtain ⟨Q1, Q2, o1, o2, fin⟩ := st_missed (xs (i + 1)) (wa w A1) (wa w A2) 58 10 M N (by decide) (by decide) hC
  refine lk_ald C.1 a_L_720 rfl ?_
  refine ll_arg (k := 1) C a_L_721 a_L_722 a_L_723 a_L_724 a_L_725 hi (by decide) ?_
  refine ll_c1 (as := [vi (xs (i + 1))]) C a_L_726 mv_X6_missed ml_L_82 rfl o1 rfl rfl (fun r M1 h1 => ?_)
  refine lk_ald C.1 a_L_729 rfl ?_
  refine ll_arg (k := 1) C a_L_730 a_L_731 a_L_732 a_L_733 a_L_734 hi (by decide) ?_
  refine ll_c2 (as := [vi (xs (i + 1))]) C a_L_735 mv_X7_missed ml_L_85 rfl o2 rfl rfl (fun r1 N1 h2 => ?_)
  obtain ⟨hv, hC1⟩ := fin _ _ _ _ h1 h2
  exact ll_eqI C a_L_738 hv (nx _ _ hC1)
theorem ll_next {F : LkF} {w : Wd} {A1 A2 : Nat → Nat → Nat} {b L i : Nat} {xs : Nat → Int32} {Q : State → Prop} {M N : Mem} (C : ll_X F w A1 A2 b L xs) (hi : i + 7 ≤ L) (hC : Cp M N) (nx : ∀ M1 N1, Cp M1 N1 → ll_W F w Q (ll_I w A1 A2 M1 N1) 1449 (ll_l b A1 A2 i) []) : ll_W F w Q (ll_I w A1 A2 M N) 743 (ll_l b A1 A2 i) [] := by
  obtain ⟨Q1, Q2, o1, o2, fin⟩ := st_next (xs (i + 1)) (wa w A1) (wa w A2) 58 10 M N (by decide) (by decide) hC
  refine lk_ald C.1 a_L_743 rfl ?_
  refine ll_arg (k := 1) C a_L_744 a_L_745 a_L_746 a_L_747 a_L_748 hi (by decide) ?_
  refine ll_c1 (as := [vi (xs (i + 1))]) C a_L_749 mv_X6_next ml_L_86 rfl o1 rfl rfl (fun r M1 h1 => ?_)
  refine lk_ald C.1 a_L_752 rfl ?_
  refine ll_arg (k := 1) C a_L_753 a_L_754 a_L_755 a_L_756 a_L_757 hi (by decide) ?_
  refine ll_c2 (as := [vi (xs (i + 1))]) C a_L_758 mv_X7_next ml_L_89 rfl o2 rfl rfl (fun r1 N1 h2 => ?_)
  obtain ⟨hv, hC1⟩ := fin _ _ _ _ h1 h2
  exact ll_eqI C a_L_761 hv (nx _ _ hC1)
theorem ll_rusts {F : LkF} {w : Wd} {A1 A2 : Nat → Nat → Nat} {b L i : Nat} {xs : Nat → Int32} {Q : State → Prop} {M N : Mem} (C : ll_X F w A1 A2 b L xs) (hi : i + 7 ≤ L) (hC : Cp M N) (nx : ∀ M1 N1, Cp M1 N1 → ll_W F w Q (ll_I w A1 A2 M1 N1) 1449 (ll_l b A1 A2 i) []) : ll_W F w Q (ll_I w A1 A2 M N) 766 (ll_l b A1 A2 i) [] := by
  obtain ⟨Q1, Q2, o1, o2, fin⟩ := st_rusts (xs (i + 1)) (wa w A1) (wa w A2) 58 10 M N (by decide) (by decide) hC
  refine lk_ald C.1 a_L_766 rfl ?_
  refine ll_arg (k := 1) C a_L_767 a_L_768 a_L_769 a_L_770 a_L_771 hi (by decide) ?_
  refine ll_c1 (as := [vi (xs (i + 1))]) C a_L_772 mv_X6_rusts ml_L_90 rfl o1 rfl rfl (fun r M1 h1 => ?_)
  refine lk_ald C.1 a_L_775 rfl ?_
  refine ll_arg (k := 1) C a_L_776 a_L_777 a_L_778 a_L_779 a_L_780 hi (by decide) ?_
  refine ll_c2 (as := [vi (xs (i + 1))]) C a_L_781 mv_X7_rusts ml_L_93 rfl o2 rfl rfl (fun r1 N1 h2 => ?_)
  obtain ⟨hv, hC1⟩ := fin _ _ _ _ h1 h2
  exact ll_eqI C a_L_784 hv (nx _ _ hC1)
theorem ll_come {F : LkF} {w : Wd} {A1 A2 : Nat → Nat → Nat} {b L i : Nat} {xs : Nat → Int32} {Q : State → Prop} {M N : Mem} (C : ll_X F w A1 A2 b L xs) (hi : i + 7 ≤ L) (hC : Cp M N) (nx : ∀ M1 N1, Cp M1 N1 → ll_W F w Q (ll_I w A1 A2 M1 N1) 1449 (ll_l b A1 A2 i) []) : ll_W F w Q (ll_I w A1 A2 M N) 789 (ll_l b A1 A2 i) [] := by
  obtain ⟨Q1, Q2, o1, o2, fin⟩ := st_come (xs (i + 1)) (xs (i + 2)) (wa w A1) (wa w A2) 58 10 M N (by decide) (by decide) hC
  refine lk_ald C.1 a_L_789 rfl ?_
  refine ll_arg (k := 1) C a_L_790 a_L_791 a_L_792 a_L_793 a_L_794 hi (by decide) ?_
  refine ll_arg (k := 2) C a_L_795 a_L_796 a_L_797 a_L_798 a_L_799 hi (by decide) ?_
  refine ll_c1 (as := [vi (xs (i + 1)), vi (xs (i + 2))]) C a_L_800 mv_X6_come ml_L_94 rfl o1 rfl rfl (fun r M1 h1 => ?_)
  refine lk_ald C.1 a_L_803 rfl ?_
  refine ll_arg (k := 1) C a_L_804 a_L_805 a_L_806 a_L_807 a_L_808 hi (by decide) ?_
  refine ll_arg (k := 2) C a_L_809 a_L_810 a_L_811 a_L_812 a_L_813 hi (by decide) ?_
  refine ll_c2 (as := [vi (xs (i + 1)), vi (xs (i + 2))]) C a_L_814 mv_X7_come ml_L_98 rfl o2 rfl rfl (fun r1 N1 h2 => ?_)
  obtain ⟨hv, hC1⟩ := fin _ _ _ _ h1 h2
  exact ll_eqL C a_L_817 a_L_818 hv (nx _ _ hC1)
theorem ll_reach {F : LkF} {w : Wd} {A1 A2 : Nat → Nat → Nat} {b L i : Nat} {xs : Nat → Int32} {Q : State → Prop} {M N : Mem} (C : ll_X F w A1 A2 b L xs) (hi : i + 7 ≤ L) (hC : Cp M N) (nx : ∀ M1 N1, Cp M1 N1 → ll_W F w Q (ll_I w A1 A2 M1 N1) 1449 (ll_l b A1 A2 i) []) : ll_W F w Q (ll_I w A1 A2 M N) 823 (ll_l b A1 A2 i) [] := by
  obtain ⟨Q1, Q2, o1, o2, fin⟩ := st_reach (xs (i + 1)) (xs (i + 2)) (wa w A1) (wa w A2) 58 10 M N (by decide) (by decide) hC
  refine lk_ald C.1 a_L_823 rfl ?_
  refine ll_arg (k := 1) C a_L_824 a_L_825 a_L_826 a_L_827 a_L_828 hi (by decide) ?_
  refine ll_arg (k := 2) C a_L_829 a_L_830 a_L_831 a_L_832 a_L_833 hi (by decide) ?_
  refine ll_c1 (as := [vi (xs (i + 1)), vi (xs (i + 2))]) C a_L_834 mv_X6_reach ml_L_99 rfl o1 rfl rfl (fun r M1 h1 => ?_)
  refine lk_ald C.1 a_L_837 rfl ?_
  refine ll_arg (k := 1) C a_L_838 a_L_839 a_L_840 a_L_841 a_L_842 hi (by decide) ?_
  refine ll_arg (k := 2) C a_L_843 a_L_844 a_L_845 a_L_846 a_L_847 hi (by decide) ?_
  refine ll_c2 (as := [vi (xs (i + 1)), vi (xs (i + 2))]) C a_L_848 mv_X7_reach ml_L_102 rfl o2 rfl rfl (fun r1 N1 h2 => ?_)
  obtain ⟨hv, hC1⟩ := fin _ _ _ _ h1 h2
  exact ll_eqL C a_L_851 a_L_852 hv (nx _ _ hC1)
theorem ll_chain {F : LkF} {w : Wd} {A1 A2 : Nat → Nat → Nat} {b L i : Nat} {xs : Nat → Int32} {Q : State → Prop} {M N : Mem} (C : ll_X F w A1 A2 b L xs) (hi : i + 7 ≤ L) (hC : Cp M N) (nx : ∀ M1 N1, Cp M1 N1 → ll_W F w Q (ll_I w A1 A2 M1 N1) 1449 (ll_l b A1 A2 i) []) : ll_W F w Q (ll_I w A1 A2 M N) 857 (ll_l b A1 A2 i) [] := by
  obtain ⟨Q1, Q2, o1, o2, fin⟩ := st_chain (xs (i + 1)) (wa w A1) (wa w A2) 58 10 M N (by decide) (by decide) hC
  refine lk_ald C.1 a_L_857 rfl ?_
  refine ll_arg (k := 1) C a_L_858 a_L_859 a_L_860 a_L_861 a_L_862 hi (by decide) ?_
  refine ll_c1 (as := [vi (xs (i + 1))]) C a_L_863 mv_X6_chain ml_L_103 rfl o1 rfl rfl (fun r M1 h1 => ?_)
  refine lk_ald C.1 a_L_866 rfl ?_
  refine ll_arg (k := 1) C a_L_867 a_L_868 a_L_869 a_L_870 a_L_871 hi (by decide) ?_
  refine ll_c2 (as := [vi (xs (i + 1))]) C a_L_872 mv_X7_chain ml_L_106 rfl o2 rfl rfl (fun r1 N1 h2 => ?_)
  obtain ⟨hv, hC1⟩ := fin _ _ _ _ h1 h2
  exact ll_eqI C a_L_875 hv (nx _ _ hC1)
theorem ll_judge {F : LkF} {w : Wd} {A1 A2 : Nat → Nat → Nat} {b L i : Nat} {xs : Nat → Int32} {Q : State → Prop} {M N : Mem} (C : ll_X F w A1 A2 b L xs) (hi : i + 7 ≤ L) (hC : Cp M N) (nx : ∀ M1 N1, Cp M1 N1 → ll_W F w Q (ll_I w A1 A2 M1 N1) 1449 (ll_l b A1 A2 i) []) : ll_W F w Q (ll_I w A1 A2 M N) 880 (ll_l b A1 A2 i) [] := by
  obtain ⟨Q1, Q2, o1, o2, fin⟩ := st_judge (xs (i + 1)) (wa w A1) (wa w A2) 58 10 M N (by decide) (by decide) hC
  refine lk_ald C.1 a_L_880 rfl ?_
  refine ll_arg (k := 1) C a_L_881 a_L_882 a_L_883 a_L_884 a_L_885 hi (by decide) ?_
  refine ll_c1 (as := [vi (xs (i + 1))]) C a_L_886 mv_X6_judge ml_L_107 rfl o1 rfl rfl (fun r M1 h1 => ?_)
  refine lk_ald C.1 a_L_889 rfl ?_
  refine ll_arg (k := 1) C a_L_890 a_L_891 a_L_892 a_L_893 a_L_894 hi (by decide) ?_
  refine ll_c2 (as := [vi (xs (i + 1))]) C a_L_895 mv_X7_judge ml_L_110 rfl o2 rfl rfl (fun r1 N1 h2 => ?_)
  obtain ⟨hv, hC1⟩ := fin _ _ _ _ h1 h2
  exact ll_eqI C a_L_898 hv (nx _ _ hC1)
theorem ll_kinds {F : LkF} {w : Wd} {A1 A2 : Nat → Nat → Nat} {b L i : Nat} {xs : Nat → Int32} {Q : State → Prop} {M N : Mem} (C : ll_X F w A1 A2 b L xs) (hi : i + 7 ≤ L) (hC : Cp M N) (nx : ∀ M1 N1, Cp M1 N1 → ll_W F w Q (ll_I w A1 A2 M1 N1) 1449 (ll_l b A1 A2 i) []) : ll_W F w Q (ll_I w A1 A2 M N) 903 (ll_l b A1 A2 i) [] := by
  obtain ⟨Q1, Q2, o1, o2, fin⟩ := st_kinds (xs (i + 1)) (xs (i + 2)) (xs (i + 3)) (wa w A1) (wa w A2) 58 10 M N (by decide) (by decide) hC
  refine lk_ald C.1 a_L_903 rfl ?_
  refine ll_arg (k := 1) C a_L_904 a_L_905 a_L_906 a_L_907 a_L_908 hi (by decide) ?_
  refine ll_arg (k := 2) C a_L_909 a_L_910 a_L_911 a_L_912 a_L_913 hi (by decide) ?_
  refine ll_arg (k := 3) C a_L_914 a_L_915 a_L_916 a_L_917 a_L_918 hi (by decide) ?_
  refine ll_c1 (as := [vi (xs (i + 1)), vi (xs (i + 2)), vi (xs (i + 3))]) C a_L_919 mv_X6_kinds ml_L_111 rfl o1 rfl rfl (fun r M1 h1 => ?_)
  refine lk_ald C.1 a_L_922 rfl ?_
  refine ll_arg (k := 1) C a_L_923 a_L_924 a_L_925 a_L_926 a_L_927 hi (by decide) ?_
  refine ll_arg (k := 2) C a_L_928 a_L_929 a_L_930 a_L_931 a_L_932 hi (by decide) ?_
  refine ll_arg (k := 3) C a_L_933 a_L_934 a_L_935 a_L_936 a_L_937 hi (by decide) ?_
  refine ll_c2 (as := [vi (xs (i + 1)), vi (xs (i + 2)), vi (xs (i + 3))]) C a_L_938 mv_X7_kinds ml_L_114 rfl o2 rfl rfl (fun r1 N1 h2 => ?_)
  obtain ⟨hv, hC1⟩ := fin _ _ _ _ h1 h2
  exact ll_eqI C a_L_941 hv (nx _ _ hC1)
theorem ll_heights {F : LkF} {w : Wd} {A1 A2 : Nat → Nat → Nat} {b L i : Nat} {xs : Nat → Int32} {Q : State → Prop} {M N : Mem} (C : ll_X F w A1 A2 b L xs) (hi : i + 7 ≤ L) (hC : Cp M N) (nx : ∀ M1 N1, Cp M1 N1 → ll_W F w Q (ll_I w A1 A2 M1 N1) 1449 (ll_l b A1 A2 i) []) : ll_W F w Q (ll_I w A1 A2 M N) 946 (ll_l b A1 A2 i) [] := by
  obtain ⟨Q1, Q2, o1, o2, fin⟩ := st_heights (xs (i + 1)) (xs (i + 2)) (xs (i + 3)) (wa w A1) (wa w A2) 58 10 M N (by decide) (by decide) hC
  refine lk_ald C.1 a_L_946 rfl ?_
  refine ll_arg (k := 1) C a_L_947 a_L_948 a_L_949 a_L_950 a_L_951 hi (by decide) ?_
  refine ll_arg (k := 2) C a_L_952 a_L_953 a_L_954 a_L_955 a_L_956 hi (by decide) ?_
  refine ll_arg (k := 3) C a_L_957 a_L_958 a_L_959 a_L_960 a_L_961 hi (by decide) ?_
  refine ll_c1 (as := [vi (xs (i + 1)), vi (xs (i + 2)), vi (xs (i + 3))]) C a_L_962 mv_X6_heights ml_L_115 rfl o1 rfl rfl (fun r M1 h1 => ?_)
  refine lk_ald C.1 a_L_965 rfl ?_
  refine ll_arg (k := 1) C a_L_966 a_L_967 a_L_968 a_L_969 a_L_970 hi (by decide) ?_
  refine ll_arg (k := 2) C a_L_971 a_L_972 a_L_973 a_L_974 a_L_975 hi (by decide) ?_
  refine ll_arg (k := 3) C a_L_976 a_L_977 a_L_978 a_L_979 a_L_980 hi (by decide) ?_
  refine ll_c2 (as := [vi (xs (i + 1)), vi (xs (i + 2)), vi (xs (i + 3))]) C a_L_981 mv_X7_heights ml_L_118 rfl o2 rfl rfl (fun r1 N1 h2 => ?_)
  obtain ⟨hv, hC1⟩ := fin _ _ _ _ h1 h2
  exact ll_eqI C a_L_984 hv (nx _ _ hC1)
theorem ll_years {F : LkF} {w : Wd} {A1 A2 : Nat → Nat → Nat} {b L i : Nat} {xs : Nat → Int32} {Q : State → Prop} {M N : Mem} (C : ll_X F w A1 A2 b L xs) (hi : i + 7 ≤ L) (hC : Cp M N) (nx : ∀ M1 N1, Cp M1 N1 → ll_W F w Q (ll_I w A1 A2 M1 N1) 1449 (ll_l b A1 A2 i) []) : ll_W F w Q (ll_I w A1 A2 M N) 989 (ll_l b A1 A2 i) [] := by
  obtain ⟨Q1, Q2, o1, o2, fin⟩ := st_years (xs (i + 1)) (xs (i + 2)) (wa w A1) (wa w A2) 58 10 M N (by decide) (by decide) hC
  refine lk_ald C.1 a_L_989 rfl ?_
  refine ll_arg (k := 1) C a_L_990 a_L_991 a_L_992 a_L_993 a_L_994 hi (by decide) ?_
  refine ll_arg (k := 2) C a_L_995 a_L_996 a_L_997 a_L_998 a_L_999 hi (by decide) ?_
  refine ll_c1 (as := [vi (xs (i + 1)), vi (xs (i + 2))]) C a_L_1000 mv_X6_years ml_L_119 rfl o1 rfl rfl (fun r M1 h1 => ?_)
  refine lk_ald C.1 a_L_1003 rfl ?_
  refine ll_arg (k := 1) C a_L_1004 a_L_1005 a_L_1006 a_L_1007 a_L_1008 hi (by decide) ?_
  refine ll_arg (k := 2) C a_L_1009 a_L_1010 a_L_1011 a_L_1012 a_L_1013 hi (by decide) ?_
  refine ll_c2 (as := [vi (xs (i + 1)), vi (xs (i + 2))]) C a_L_1014 mv_X7_years ml_L_122 rfl o2 rfl rfl (fun r1 N1 h2 => ?_)
  obtain ⟨hv, hC1⟩ := fin _ _ _ _ h1 h2
  exact ll_eqI C a_L_1017 hv (nx _ _ hC1)
theorem ll_whose {F : LkF} {w : Wd} {A1 A2 : Nat → Nat → Nat} {b L i : Nat} {xs : Nat → Int32} {Q : State → Prop} {M N : Mem} (C : ll_X F w A1 A2 b L xs) (hi : i + 7 ≤ L) (hC : Cp M N) (nx : ∀ M1 N1, Cp M1 N1 → ll_W F w Q (ll_I w A1 A2 M1 N1) 1449 (ll_l b A1 A2 i) []) : ll_W F w Q (ll_I w A1 A2 M N) 1022 (ll_l b A1 A2 i) [] := by
  obtain ⟨Q1, Q2, o1, o2, fin⟩ := st_whose (xs (i + 1)) (xs (i + 2)) (wa w A1) (wa w A2) 58 10 M N (by decide) (by decide) hC
  refine lk_ald C.1 a_L_1022 rfl ?_
  refine ll_arg (k := 1) C a_L_1023 a_L_1024 a_L_1025 a_L_1026 a_L_1027 hi (by decide) ?_
  refine ll_arg (k := 2) C a_L_1028 a_L_1029 a_L_1030 a_L_1031 a_L_1032 hi (by decide) ?_
  refine ll_c1 (as := [vi (xs (i + 1)), vi (xs (i + 2))]) C a_L_1033 mv_X6_whose ml_L_123 rfl o1 rfl rfl (fun r M1 h1 => ?_)
  refine lk_ald C.1 a_L_1036 rfl ?_
  refine ll_arg (k := 1) C a_L_1037 a_L_1038 a_L_1039 a_L_1040 a_L_1041 hi (by decide) ?_
  refine ll_arg (k := 2) C a_L_1042 a_L_1043 a_L_1044 a_L_1045 a_L_1046 hi (by decide) ?_
  refine ll_c2 (as := [vi (xs (i + 1)), vi (xs (i + 2))]) C a_L_1047 mv_X7_whose ml_L_126 rfl o2 rfl rfl (fun r1 N1 h2 => ?_)
  obtain ⟨hv, hC1⟩ := fin _ _ _ _ h1 h2
  exact ll_eqI C a_L_1050 hv (nx _ _ hC1)
theorem ll_laws {F : LkF} {w : Wd} {A1 A2 : Nat → Nat → Nat} {b L i : Nat} {xs : Nat → Int32} {Q : State → Prop} {M N : Mem} (C : ll_X F w A1 A2 b L xs) (hi : i + 7 ≤ L) (hC : Cp M N) (nx : ∀ M1 N1, Cp M1 N1 → ll_W F w Q (ll_I w A1 A2 M1 N1) 1449 (ll_l b A1 A2 i) []) : ll_W F w Q (ll_I w A1 A2 M N) 1055 (ll_l b A1 A2 i) [] := by
  obtain ⟨Q1, Q2, o1, o2, fin⟩ := st_laws (xs (i + 1)) (wa w A1) (wa w A2) 58 10 M N (by decide) (by decide) hC
  refine lk_ald C.1 a_L_1055 rfl ?_
  refine ll_arg (k := 1) C a_L_1056 a_L_1057 a_L_1058 a_L_1059 a_L_1060 hi (by decide) ?_
  refine ll_c1 (as := [vi (xs (i + 1))]) C a_L_1061 mv_X6_laws ml_L_127 rfl o1 rfl rfl (fun r M1 h1 => ?_)
  refine lk_ald C.1 a_L_1064 rfl ?_
  refine ll_arg (k := 1) C a_L_1065 a_L_1066 a_L_1067 a_L_1068 a_L_1069 hi (by decide) ?_
  refine ll_c2 (as := [vi (xs (i + 1))]) C a_L_1070 mv_X7_laws ml_L_130 rfl o2 rfl rfl (fun r1 N1 h2 => ?_)
  obtain ⟨hv, hC1⟩ := fin _ _ _ _ h1 h2
  exact ll_eqI C a_L_1073 hv (nx _ _ hC1)
theorem ll_film {F : LkF} {w : Wd} {A1 A2 : Nat → Nat → Nat} {b L i : Nat} {xs : Nat → Int32} {Q : State → Prop} {M N : Mem} (C : ll_X F w A1 A2 b L xs) (hi : i + 7 ≤ L) (hC : Cp M N) (nx : ∀ M1 N1, Cp M1 N1 → ll_W F w Q (ll_I w A1 A2 M1 N1) 1449 (ll_l b A1 A2 i) []) : ll_W F w Q (ll_I w A1 A2 M N) 1078 (ll_l b A1 A2 i) [] := by
  obtain ⟨Q1, Q2, o1, o2, fin⟩ := st_film (xs (i + 1)) (wa w A1) (wa w A2) 58 10 M N (by decide) (by decide) hC
  refine lk_ald C.1 a_L_1078 rfl ?_
  refine ll_arg (k := 1) C a_L_1079 a_L_1080 a_L_1081 a_L_1082 a_L_1083 hi (by decide) ?_
  refine ll_c1 (as := [vi (xs (i + 1))]) C a_L_1084 mv_X6_film ml_L_131 rfl o1 rfl rfl (fun r M1 h1 => ?_)
  refine lk_ald C.1 a_L_1087 rfl ?_
  refine ll_arg (k := 1) C a_L_1088 a_L_1089 a_L_1090 a_L_1091 a_L_1092 hi (by decide) ?_
  refine ll_c2 (as := [vi (xs (i + 1))]) C a_L_1093 mv_X7_film ml_L_134 rfl o2 rfl rfl (fun r1 N1 h2 => ?_)
  obtain ⟨hv, hC1⟩ := fin _ _ _ _ h1 h2
  exact ll_eqI C a_L_1096 hv (nx _ _ hC1)
theorem ll_drawn {F : LkF} {w : Wd} {A1 A2 : Nat → Nat → Nat} {b L i : Nat} {xs : Nat → Int32} {Q : State → Prop} {M N : Mem} (C : ll_X F w A1 A2 b L xs) (hi : i + 7 ≤ L) (hC : Cp M N) (nx : ∀ M1 N1, Cp M1 N1 → ll_W F w Q (ll_I w A1 A2 M1 N1) 1449 (ll_l b A1 A2 i) []) : ll_W F w Q (ll_I w A1 A2 M N) 1101 (ll_l b A1 A2 i) [] := by
  obtain ⟨Q1, Q2, o1, o2, fin⟩ := st_drawn (xs (i + 1)) (xs (i + 2)) (wa w A1) (wa w A2) 58 10 M N (by decide) (by decide) hC
  refine lk_ald C.1 a_L_1101 rfl ?_
  refine ll_arg (k := 1) C a_L_1102 a_L_1103 a_L_1104 a_L_1105 a_L_1106 hi (by decide) ?_
  refine ll_arg (k := 2) C a_L_1107 a_L_1108 a_L_1109 a_L_1110 a_L_1111 hi (by decide) ?_
  refine ll_c1 (as := [vi (xs (i + 1)), vi (xs (i + 2))]) C a_L_1112 mv_X6_drawn ml_L_135 rfl o1 rfl rfl (fun r M1 h1 => ?_)
  refine lk_ald C.1 a_L_1115 rfl ?_
  refine ll_arg (k := 1) C a_L_1116 a_L_1117 a_L_1118 a_L_1119 a_L_1120 hi (by decide) ?_
  refine ll_arg (k := 2) C a_L_1121 a_L_1122 a_L_1123 a_L_1124 a_L_1125 hi (by decide) ?_
  refine ll_c2 (as := [vi (xs (i + 1)), vi (xs (i + 2))]) C a_L_1126 mv_X7_drawn ml_L_138 rfl o2 rfl rfl (fun r1 N1 h2 => ?_)
  obtain ⟨hv, hC1⟩ := fin _ _ _ _ h1 h2
  exact ll_eqI C a_L_1129 hv (nx _ _ hC1)
theorem ll_odds {F : LkF} {w : Wd} {A1 A2 : Nat → Nat → Nat} {b L i : Nat} {xs : Nat → Int32} {Q : State → Prop} {M N : Mem} (C : ll_X F w A1 A2 b L xs) (hi : i + 7 ≤ L) (hC : Cp M N) (nx : ∀ M1 N1, Cp M1 N1 → ll_W F w Q (ll_I w A1 A2 M1 N1) 1449 (ll_l b A1 A2 i) []) : ll_W F w Q (ll_I w A1 A2 M N) 1134 (ll_l b A1 A2 i) [] := by
  obtain ⟨Q1, Q2, o1, o2, fin⟩ := st_odds (xs (i + 1)) (xs (i + 2)) (xs (i + 3)) (xs (i + 4)) (wa w A1) (wa w A2) 58 10 M N (by decide) (by decide) hC
  refine lk_ald C.1 a_L_1134 rfl ?_
  refine ll_arg (k := 1) C a_L_1135 a_L_1136 a_L_1137 a_L_1138 a_L_1139 hi (by decide) ?_
  refine ll_arg (k := 2) C a_L_1140 a_L_1141 a_L_1142 a_L_1143 a_L_1144 hi (by decide) ?_
  refine ll_arg (k := 3) C a_L_1145 a_L_1146 a_L_1147 a_L_1148 a_L_1149 hi (by decide) ?_
  refine ll_arg (k := 4) C a_L_1150 a_L_1151 a_L_1152 a_L_1153 a_L_1154 hi (by decide) ?_
  refine ll_c1 (as := [vi (xs (i + 1)), vi (xs (i + 2)), vi (xs (i + 3)), vi (xs (i + 4))]) C a_L_1155 mv_X6_odds ml_L_139 rfl o1 rfl rfl (fun r M1 h1 => ?_)
  refine lk_ald C.1 a_L_1158 rfl ?_
  refine ll_arg (k := 1) C a_L_1159 a_L_1160 a_L_1161 a_L_1162 a_L_1163 hi (by decide) ?_
  refine ll_arg (k := 2) C a_L_1164 a_L_1165 a_L_1166 a_L_1167 a_L_1168 hi (by decide) ?_
  refine ll_arg (k := 3) C a_L_1169 a_L_1170 a_L_1171 a_L_1172 a_L_1173 hi (by decide) ?_
  refine ll_arg (k := 4) C a_L_1174 a_L_1175 a_L_1176 a_L_1177 a_L_1178 hi (by decide) ?_
  refine ll_c2 (as := [vi (xs (i + 1)), vi (xs (i + 2)), vi (xs (i + 3)), vi (xs (i + 4))]) C a_L_1179 mv_X7_odds ml_L_143 rfl o2 rfl rfl (fun r1 N1 h2 => ?_)
  obtain ⟨hv, hC1⟩ := fin _ _ _ _ h1 h2
  exact ll_eqL C a_L_1182 a_L_1183 hv (nx _ _ hC1)
theorem ll_image {F : LkF} {w : Wd} {A1 A2 : Nat → Nat → Nat} {b L i : Nat} {xs : Nat → Int32} {Q : State → Prop} {M N : Mem} (C : ll_X F w A1 A2 b L xs) (hi : i + 7 ≤ L) (hC : Cp M N) (nx : ∀ M1 N1, Cp M1 N1 → ll_W F w Q (ll_I w A1 A2 M1 N1) 1449 (ll_l b A1 A2 i) []) : ll_W F w Q (ll_I w A1 A2 M N) 1188 (ll_l b A1 A2 i) [] := by
  obtain ⟨Q1, Q2, o1, o2, fin⟩ := st_image (wa w A1) (wa w A2) 58 10 M N (by decide) (by decide) hC
  refine lk_ald C.1 a_L_1188 rfl ?_
  refine ll_c1 (as := []) C a_L_1189 mv_X6_image ml_L_144 rfl o1 rfl rfl (fun r M1 h1 => ?_)
  refine lk_ald C.1 a_L_1192 rfl ?_
  refine ll_c2 (as := []) C a_L_1193 mv_X7_image ml_L_147 rfl o2 rfl rfl (fun r1 N1 h2 => ?_)
  obtain ⟨hv, hC1⟩ := fin _ _ _ _ h1 h2
  exact ll_eqI C a_L_1196 hv (nx _ _ hC1)
theorem ll_back {F : LkF} {w : Wd} {A1 A2 : Nat → Nat → Nat} {b L i : Nat} {xs : Nat → Int32} {Q : State → Prop} {M N : Mem} (C : ll_X F w A1 A2 b L xs) (hi : i + 7 ≤ L) (hC : Cp M N) (nx : ∀ M1 N1, Cp M1 N1 → ll_W F w Q (ll_I w A1 A2 M1 N1) 1449 (ll_l b A1 A2 i) []) : ll_W F w Q (ll_I w A1 A2 M N) 1201 (ll_l b A1 A2 i) [] := by
  obtain ⟨Q1, Q2, o1, o2, fin⟩ := st_back (wa w A1) (wa w A2) 58 10 M N (by decide) (by decide) hC
  refine lk_ald C.1 a_L_1201 rfl ?_
  refine ll_c1 (as := []) C a_L_1202 mv_X6_back ml_L_148 rfl o1 rfl rfl (fun r M1 h1 => ?_)
  refine lk_ald C.1 a_L_1205 rfl ?_
  refine ll_c2 (as := []) C a_L_1206 mv_X7_back ml_L_151 rfl o2 rfl rfl (fun r1 N1 h2 => ?_)
  obtain ⟨hv, hC1⟩ := fin _ _ _ _ h1 h2
  exact ll_eqI C a_L_1209 hv (nx _ _ hC1)
theorem ll_sheet {F : LkF} {w : Wd} {A1 A2 : Nat → Nat → Nat} {b L i : Nat} {xs : Nat → Int32} {Q : State → Prop} {M N : Mem} (C : ll_X F w A1 A2 b L xs) (hi : i + 7 ≤ L) (hC : Cp M N) (nx : ∀ M1 N1, Cp M1 N1 → ll_W F w Q (ll_I w A1 A2 M1 N1) 1449 (ll_l b A1 A2 i) []) : ll_W F w Q (ll_I w A1 A2 M N) 1214 (ll_l b A1 A2 i) [] := by
  obtain ⟨Q1, Q2, o1, o2, fin⟩ := st_sheet (xs (i + 1)) (xs (i + 2)) (xs (i + 3)) (wa w A1) (wa w A2) 58 10 M N (by decide) (by decide) hC
  refine lk_ald C.1 a_L_1214 rfl ?_
  refine ll_arg (k := 1) C a_L_1215 a_L_1216 a_L_1217 a_L_1218 a_L_1219 hi (by decide) ?_
  refine ll_arg (k := 2) C a_L_1220 a_L_1221 a_L_1222 a_L_1223 a_L_1224 hi (by decide) ?_
  refine ll_arg (k := 3) C a_L_1225 a_L_1226 a_L_1227 a_L_1228 a_L_1229 hi (by decide) ?_
  refine ll_c1 (as := [vi (xs (i + 1)), vi (xs (i + 2)), vi (xs (i + 3))]) C a_L_1230 mv_X6_sheet ml_L_152 rfl o1 rfl rfl (fun r M1 h1 => ?_)
  refine lk_ald C.1 a_L_1233 rfl ?_
  refine ll_arg (k := 1) C a_L_1234 a_L_1235 a_L_1236 a_L_1237 a_L_1238 hi (by decide) ?_
  refine ll_arg (k := 2) C a_L_1239 a_L_1240 a_L_1241 a_L_1242 a_L_1243 hi (by decide) ?_
  refine ll_arg (k := 3) C a_L_1244 a_L_1245 a_L_1246 a_L_1247 a_L_1248 hi (by decide) ?_
  refine ll_c2 (as := [vi (xs (i + 1)), vi (xs (i + 2)), vi (xs (i + 3))]) C a_L_1249 mv_X7_sheet ml_L_155 rfl o2 rfl rfl (fun r1 N1 h2 => ?_)
  obtain ⟨hv, hC1⟩ := fin _ _ _ _ h1 h2
  exact ll_eqI C a_L_1252 hv (nx _ _ hC1)
theorem ll_cell {F : LkF} {w : Wd} {A1 A2 : Nat → Nat → Nat} {b L i : Nat} {xs : Nat → Int32} {Q : State → Prop} {M N : Mem} (C : ll_X F w A1 A2 b L xs) (hi : i + 7 ≤ L) (hC : Cp M N) (nx : ∀ M1 N1, Cp M1 N1 → ll_W F w Q (ll_I w A1 A2 M1 N1) 1449 (ll_l b A1 A2 i) []) : ll_W F w Q (ll_I w A1 A2 M N) 1257 (ll_l b A1 A2 i) [] := by
  obtain ⟨Q1, Q2, o1, o2, fin⟩ := st_cell (xs (i + 1)) (xs (i + 2)) (xs (i + 3)) (wa w A1) (wa w A2) 58 10 M N (by decide) (by decide) hC
  refine lk_ald C.1 a_L_1257 rfl ?_
  refine ll_arg (k := 1) C a_L_1258 a_L_1259 a_L_1260 a_L_1261 a_L_1262 hi (by decide) ?_
  refine ll_arg (k := 2) C a_L_1263 a_L_1264 a_L_1265 a_L_1266 a_L_1267 hi (by decide) ?_
  refine ll_arg (k := 3) C a_L_1268 a_L_1269 a_L_1270 a_L_1271 a_L_1272 hi (by decide) ?_
  refine ll_c1 (as := [vi (xs (i + 1)), vi (xs (i + 2)), vi (xs (i + 3))]) C a_L_1273 mv_X6_cell ml_L_156 rfl o1 rfl rfl (fun r M1 h1 => ?_)
  refine lk_ald C.1 a_L_1276 rfl ?_
  refine ll_arg (k := 1) C a_L_1277 a_L_1278 a_L_1279 a_L_1280 a_L_1281 hi (by decide) ?_
  refine ll_arg (k := 2) C a_L_1282 a_L_1283 a_L_1284 a_L_1285 a_L_1286 hi (by decide) ?_
  refine ll_arg (k := 3) C a_L_1287 a_L_1288 a_L_1289 a_L_1290 a_L_1291 hi (by decide) ?_
  refine ll_c2 (as := [vi (xs (i + 1)), vi (xs (i + 2)), vi (xs (i + 3))]) C a_L_1292 mv_X7_cell ml_L_159 rfl o2 rfl rfl (fun r1 N1 h2 => ?_)
  obtain ⟨hv, hC1⟩ := fin _ _ _ _ h1 h2
  exact ll_eqI C a_L_1295 hv (nx _ _ hC1)
theorem ll_copy {F : LkF} {w : Wd} {A1 A2 : Nat → Nat → Nat} {b L i : Nat} {xs : Nat → Int32} {Q : State → Prop} {M N : Mem} (C : ll_X F w A1 A2 b L xs) (hi : i + 7 ≤ L) (hC : Cp M N) (nx : ∀ M1 N1, Cp M1 N1 → ll_W F w Q (ll_I w A1 A2 M1 N1) 1449 (ll_l b A1 A2 i) []) : ll_W F w Q (ll_I w A1 A2 M N) 1300 (ll_l b A1 A2 i) [] := by
  obtain ⟨Q1, Q2, o1, o2, fin⟩ := st_copy (xs (i + 1)) (xs (i + 2)) (xs (i + 3)) (xs (i + 4)) (xs (i + 5)) (wa w A1) (wa w A2) 58 10 M N (by decide) (by decide) hC
  refine lk_ald C.1 a_L_1300 rfl ?_
  refine ll_arg (k := 1) C a_L_1301 a_L_1302 a_L_1303 a_L_1304 a_L_1305 hi (by decide) ?_
  refine ll_arg (k := 2) C a_L_1306 a_L_1307 a_L_1308 a_L_1309 a_L_1310 hi (by decide) ?_
  refine ll_arg (k := 3) C a_L_1311 a_L_1312 a_L_1313 a_L_1314 a_L_1315 hi (by decide) ?_
  refine ll_arg (k := 4) C a_L_1316 a_L_1317 a_L_1318 a_L_1319 a_L_1320 hi (by decide) ?_
  refine ll_arg (k := 5) C a_L_1321 a_L_1322 a_L_1323 a_L_1324 a_L_1325 hi (by decide) ?_
  refine ll_c1 (as := [vi (xs (i + 1)), vi (xs (i + 2)), vi (xs (i + 3)), vi (xs (i + 4)), vi (xs (i + 5))]) C a_L_1326 mv_X6_copy ml_L_160 rfl o1 rfl rfl (fun r M1 h1 => ?_)
  refine lk_ald C.1 a_L_1329 rfl ?_
  refine ll_arg (k := 1) C a_L_1330 a_L_1331 a_L_1332 a_L_1333 a_L_1334 hi (by decide) ?_
  refine ll_arg (k := 2) C a_L_1335 a_L_1336 a_L_1337 a_L_1338 a_L_1339 hi (by decide) ?_
  refine ll_arg (k := 3) C a_L_1340 a_L_1341 a_L_1342 a_L_1343 a_L_1344 hi (by decide) ?_
  refine ll_arg (k := 4) C a_L_1345 a_L_1346 a_L_1347 a_L_1348 a_L_1349 hi (by decide) ?_
  refine ll_arg (k := 5) C a_L_1350 a_L_1351 a_L_1352 a_L_1353 a_L_1354 hi (by decide) ?_
  refine ll_c2 (as := [vi (xs (i + 1)), vi (xs (i + 2)), vi (xs (i + 3)), vi (xs (i + 4)), vi (xs (i + 5))]) C a_L_1355 mv_X7_copy ml_L_164 rfl o2 rfl rfl (fun r1 N1 h2 => ?_)
  obtain ⟨hv, hC1⟩ := fin _ _ _ _ h1 h2
  exact ll_eqI C a_L_1358 hv (nx _ _ hC1)
theorem ll_peopleBy {F : LkF} {w : Wd} {A1 A2 : Nat → Nat → Nat} {b L i : Nat} {xs : Nat → Int32} {Q : State → Prop} {M N : Mem} (C : ll_X F w A1 A2 b L xs) (hi : i + 7 ≤ L) (hC : Cp M N) (nx : ∀ M1 N1, Cp M1 N1 → ll_W F w Q (ll_I w A1 A2 M1 N1) 1449 (ll_l b A1 A2 i) []) : ll_W F w Q (ll_I w A1 A2 M N) 1363 (ll_l b A1 A2 i) [] := by
  obtain ⟨Q1, Q2, o1, o2, fin⟩ := st_peopleBy (xs (i + 1)) (xs (i + 2)) (xs (i + 3)) (xs (i + 4)) (wa w A1) (wa w A2) 58 10 M N (by decide) (by decide) hC
  refine lk_ald C.1 a_L_1363 rfl ?_
  refine ll_arg (k := 1) C a_L_1364 a_L_1365 a_L_1366 a_L_1367 a_L_1368 hi (by decide) ?_
  refine ll_arg (k := 2) C a_L_1369 a_L_1370 a_L_1371 a_L_1372 a_L_1373 hi (by decide) ?_
  refine ll_arg (k := 3) C a_L_1374 a_L_1375 a_L_1376 a_L_1377 a_L_1378 hi (by decide) ?_
  refine ll_arg (k := 4) C a_L_1379 a_L_1380 a_L_1381 a_L_1382 a_L_1383 hi (by decide) ?_
  refine ll_c1 (as := [vi (xs (i + 1)), vi (xs (i + 2)), vi (xs (i + 3)), vi (xs (i + 4))]) C a_L_1384 mv_X6_peopleBy ml_L_165 rfl o1 rfl rfl (fun r M1 h1 => ?_)
  refine lk_ald C.1 a_L_1387 rfl ?_
  refine ll_arg (k := 1) C a_L_1388 a_L_1389 a_L_1390 a_L_1391 a_L_1392 hi (by decide) ?_
  refine ll_arg (k := 2) C a_L_1393 a_L_1394 a_L_1395 a_L_1396 a_L_1397 hi (by decide) ?_
  refine ll_arg (k := 3) C a_L_1398 a_L_1399 a_L_1400 a_L_1401 a_L_1402 hi (by decide) ?_
  refine ll_arg (k := 4) C a_L_1403 a_L_1404 a_L_1405 a_L_1406 a_L_1407 hi (by decide) ?_
  refine ll_c2 (as := [vi (xs (i + 1)), vi (xs (i + 2)), vi (xs (i + 3)), vi (xs (i + 4))]) C a_L_1408 mv_X7_peopleBy ml_L_169 rfl o2 rfl rfl (fun r1 N1 h2 => ?_)
  obtain ⟨hv, hC1⟩ := fin _ _ _ _ h1 h2
  exact ll_eqI C a_L_1411 hv (nx _ _ hC1)
theorem ll_taken {F : LkF} {w : Wd} {A1 A2 : Nat → Nat → Nat} {b L i : Nat} {xs : Nat → Int32} {Q : State → Prop} {M N : Mem} (C : ll_X F w A1 A2 b L xs) (hi : i + 7 ≤ L) (hC : Cp M N) (nx : ∀ M1 N1, Cp M1 N1 → ll_W F w Q (ll_I w A1 A2 M1 N1) 1449 (ll_l b A1 A2 i) []) : ll_W F w Q (ll_I w A1 A2 M N) 1416 (ll_l b A1 A2 i) [] := by
  obtain ⟨Q1, Q2, o1, o2, fin⟩ := st_taken (xs (i + 1)) (xs (i + 2)) (wa w A1) (wa w A2) 58 10 M N (by decide) (by decide) hC
  refine lk_ald C.1 a_L_1416 rfl ?_
  refine ll_arg (k := 1) C a_L_1417 a_L_1418 a_L_1419 a_L_1420 a_L_1421 hi (by decide) ?_
  refine ll_arg (k := 2) C a_L_1422 a_L_1423 a_L_1424 a_L_1425 a_L_1426 hi (by decide) ?_
  refine ll_c1 (as := [vi (xs (i + 1)), vi (xs (i + 2))]) C a_L_1427 mv_X6_taken ml_L_170 rfl o1 rfl rfl (fun r M1 h1 => ?_)
  refine lk_ald C.1 a_L_1430 rfl ?_
  refine ll_arg (k := 1) C a_L_1431 a_L_1432 a_L_1433 a_L_1434 a_L_1435 hi (by decide) ?_
  refine ll_arg (k := 2) C a_L_1436 a_L_1437 a_L_1438 a_L_1439 a_L_1440 hi (by decide) ?_
  refine ll_c2 (as := [vi (xs (i + 1)), vi (xs (i + 2))]) C a_L_1441 mv_X7_taken ml_L_173 rfl o2 rfl rfl (fun r1 N1 h2 => ?_)
  obtain ⟨hv, hC1⟩ := fin _ _ _ _ h1 h2
  exact ll_eqI C a_L_1444 hv (nx _ _ hC1)
