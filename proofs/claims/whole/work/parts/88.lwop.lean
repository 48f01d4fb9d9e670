/-! ===== each op of the law's body ===== -/
section LWP
set_option maxRecDepth 8000
variable {G : cG} {p : Program} {e : Env} {Rm : Room} {s : State} {m : MethodId} {args : Array Value} {below : List Frame} {meth : Method} {c : Code} {Z : State → Prop} {xs : Nat → Int32} {N i : Nat}
theorem cmp_s (x : Int64) : lg_cmp x x = 0 := by
  unfold lg_cmp
  simp
theorem lw_0 (F : FrOK G 285 p s m meth c args) (hrm : RmOK Rm 100 0 145) (hX : ScOK G s N xs) (hi : i + 5 < N) (hZ : GO G p e Rm s m args below meth c Z 1988 i) : GO G p e Rm s m args below meth c Z 240 i := by
  intro I L c0 h
  refine K_aload_n F (k := 1) (x := 0) dL_law_240 rfl ?_
  refine K_arg F hX (i := i) (k := 1) (by omega) (by decide) rfl rfl dL_law_241 dL_law_242 dL_law_243 dL_law_244 dL_law_245 ?_
  refine K_arg F hX (i := i) (k := 2) (by omega) (by decide) rfl rfl dL_law_246 dL_law_247 dL_law_248 dL_law_249 dL_law_250 ?_
  refine K_cl (a := 0) (as := [.int (xs (i + 1)), .int (xs (i + 2))]) (rest := []) F hrm rfl dL_law_251 mr_13_13 (by decide) (Nat.le_of_ble_eq_true rfl) (by decide) rfl (Nat.le_of_ble_eq_true rfl) rfl (by decide) (by decide +kernel) (o_108 _ _ I L c0 h) (fun v I2 L2 R2 hq => ?_)
  obtain ⟨-, x, c1, rfl, rfl, h2⟩ := hq
  refine K_aload_n F (k := 2) (x := 97) dL_law_254 rfl ?_
  refine K_arg F hX (i := i) (k := 1) (by omega) (by decide) rfl rfl dL_law_255 dL_law_256 dL_law_257 dL_law_258 dL_law_259 ?_
  refine K_arg F hX (i := i) (k := 2) (by omega) (by decide) rfl rfl dL_law_260 dL_law_261 dL_law_262 dL_law_263 dL_law_264 ?_
  refine K_cl (a := 97) (as := [.int (xs (i + 1)), .int (xs (i + 2))]) (rest := [.int x]) F hrm rfl dL_law_265 mr_13_17 (by decide) (Nat.le_of_ble_eq_true rfl) (by decide) rfl (Nat.le_of_ble_eq_true rfl) rfl (by decide) (by decide +kernel) (h2) (fun v I3 L3 R3 hq => ?_)
  obtain ⟨-, rfl, c2, rfl, h3⟩ := hq
  exact K_icmp_eq F (tgt := 1988) dL_law_268 (by decide) (fun _ => hZ _ _ _ h3) (fun z => absurd rfl z)
theorem lw_1 (F : FrOK G 285 p s m meth c args) (hrm : RmOK Rm 100 0 145) (hX : ScOK G s N xs) (hi : i + 5 < N) (hZ : GO G p e Rm s m args below meth c Z 1988 i) : GO G p e Rm s m args below meth c Z 273 i := by
  intro I L c0 h
  refine K_aload_n F (k := 1) (x := 0) dL_law_273 rfl ?_
  refine K_arg F hX (i := i) (k := 1) (by omega) (by decide) rfl rfl dL_law_274 dL_law_275 dL_law_276 dL_law_277 dL_law_278 ?_
  refine K_arg F hX (i := i) (k := 2) (by omega) (by decide) rfl rfl dL_law_279 dL_law_280 dL_law_281 dL_law_282 dL_law_283 ?_
  refine K_cl (a := 0) (as := [.int (xs (i + 1)), .int (xs (i + 2))]) (rest := []) F hrm rfl dL_law_284 mr_13_18 (by decide) (Nat.le_of_ble_eq_true rfl) (by decide) rfl (Nat.le_of_ble_eq_true rfl) rfl (by decide) (by decide +kernel) (o_109 _ _ I L c0 h) (fun v I2 L2 R2 hq => ?_)
  obtain ⟨-, x, c1, rfl, rfl, h2⟩ := hq
  refine K_aload_n F (k := 2) (x := 97) dL_law_287 rfl ?_
  refine K_arg F hX (i := i) (k := 1) (by omega) (by decide) rfl rfl dL_law_288 dL_law_289 dL_law_290 dL_law_291 dL_law_292 ?_
  refine K_arg F hX (i := i) (k := 2) (by omega) (by decide) rfl rfl dL_law_293 dL_law_294 dL_law_295 dL_law_296 dL_law_297 ?_
  refine K_cl (a := 97) (as := [.int (xs (i + 1)), .int (xs (i + 2))]) (rest := [.int x]) F hrm rfl dL_law_298 mr_13_21 (by decide) (Nat.le_of_ble_eq_true rfl) (by decide) rfl (Nat.le_of_ble_eq_true rfl) rfl (by decide) (by decide +kernel) (h2) (fun v I3 L3 R3 hq => ?_)
  obtain ⟨-, rfl, c2, rfl, h3⟩ := hq
  exact K_icmp_eq F (tgt := 1988) dL_law_301 (by decide) (fun _ => hZ _ _ _ h3) (fun z => absurd rfl z)
theorem lw_2 (F : FrOK G 285 p s m meth c args) (hrm : RmOK Rm 100 0 145) (hX : ScOK G s N xs) (hi : i + 5 < N) (hZ : GO G p e Rm s m args below meth c Z 1988 i) : GO G p e Rm s m args below meth c Z 306 i := by
  intro I L c0 h
  refine K_aload_n F (k := 1) (x := 0) dL_law_306 rfl ?_
  refine K_arg F hX (i := i) (k := 1) (by omega) (by decide) rfl rfl dL_law_307 dL_law_308 dL_law_309 dL_law_310 dL_law_311 ?_
  refine K_arg F hX (i := i) (k := 2) (by omega) (by decide) rfl rfl dL_law_312 dL_law_313 dL_law_314 dL_law_315 dL_law_316 ?_
  refine K_cl (a := 0) (as := [.int (xs (i + 1)), .int (xs (i + 2))]) (rest := []) F hrm rfl dL_law_317 mr_13_22 (by decide) (Nat.le_of_ble_eq_true rfl) (by decide) rfl (Nat.le_of_ble_eq_true rfl) rfl (by decide) (by decide +kernel) (o_110 _ _ I L c0 h) (fun v I2 L2 R2 hq => ?_)
  obtain ⟨-, x, c1, rfl, rfl, h2⟩ := hq
  refine K_aload_n F (k := 2) (x := 97) dL_law_320 rfl ?_
  refine K_arg F hX (i := i) (k := 1) (by omega) (by decide) rfl rfl dL_law_321 dL_law_322 dL_law_323 dL_law_324 dL_law_325 ?_
  refine K_arg F hX (i := i) (k := 2) (by omega) (by decide) rfl rfl dL_law_326 dL_law_327 dL_law_328 dL_law_329 dL_law_330 ?_
  refine K_cl (a := 97) (as := [.int (xs (i + 1)), .int (xs (i + 2))]) (rest := [.int x]) F hrm rfl dL_law_331 mr_13_25 (by decide) (Nat.le_of_ble_eq_true rfl) (by decide) rfl (Nat.le_of_ble_eq_true rfl) rfl (by decide) (by decide +kernel) (h2) (fun v I3 L3 R3 hq => ?_)
  obtain ⟨-, rfl, c2, rfl, h3⟩ := hq
  exact K_icmp_eq F (tgt := 1988) dL_law_334 (by decide) (fun _ => hZ _ _ _ h3) (fun z => absurd rfl z)
theorem lw_3 (F : FrOK G 285 p s m meth c args) (hrm : RmOK Rm 100 0 145) (hX : ScOK G s N xs) (hi : i + 5 < N) (hZ : GO G p e Rm s m args below meth c Z 1988 i) : GO G p e Rm s m args below meth c Z 339 i := by
  intro I L c0 h
  refine K_aload_n F (k := 1) (x := 0) dL_law_339 rfl ?_
  refine K_arg F hX (i := i) (k := 1) (by omega) (by decide) rfl rfl dL_law_340 dL_law_341 dL_law_342 dL_law_343 dL_law_344 ?_
  refine K_arg F hX (i := i) (k := 2) (by omega) (by decide) rfl rfl dL_law_345 dL_law_346 dL_law_347 dL_law_348 dL_law_349 ?_
  refine K_cl (a := 0) (as := [.int (xs (i + 1)), .int (xs (i + 2))]) (rest := []) F hrm rfl dL_law_350 mr_13_26 (by decide) (Nat.le_of_ble_eq_true rfl) (by decide) rfl (Nat.le_of_ble_eq_true rfl) rfl (by decide) (by decide +kernel) (o_111 _ _ I L c0 h) (fun v I2 L2 R2 hq => ?_)
  obtain ⟨-, x, c1, rfl, rfl, h2⟩ := hq
  refine K_aload_n F (k := 2) (x := 97) dL_law_353 rfl ?_
  refine K_arg F hX (i := i) (k := 1) (by omega) (by decide) rfl rfl dL_law_354 dL_law_355 dL_law_356 dL_law_357 dL_law_358 ?_
  refine K_arg F hX (i := i) (k := 2) (by omega) (by decide) rfl rfl dL_law_359 dL_law_360 dL_law_361 dL_law_362 dL_law_363 ?_
  refine K_cl (a := 97) (as := [.int (xs (i + 1)), .int (xs (i + 2))]) (rest := [.int x]) F hrm rfl dL_law_364 mr_13_29 (by decide) (Nat.le_of_ble_eq_true rfl) (by decide) rfl (Nat.le_of_ble_eq_true rfl) rfl (by decide) (by decide +kernel) (h2) (fun v I3 L3 R3 hq => ?_)
  obtain ⟨-, rfl, c2, rfl, h3⟩ := hq
  exact K_icmp_eq F (tgt := 1988) dL_law_367 (by decide) (fun _ => hZ _ _ _ h3) (fun z => absurd rfl z)
theorem lw_4 (F : FrOK G 285 p s m meth c args) (hrm : RmOK Rm 100 0 145) (hX : ScOK G s N xs) (hi : i + 5 < N) (hZ : GO G p e Rm s m args below meth c Z 1988 i) : GO G p e Rm s m args below meth c Z 372 i := by
  intro I L c0 h
  refine K_aload_n F (k := 1) (x := 0) dL_law_372 rfl ?_
  refine K_arg F hX (i := i) (k := 1) (by omega) (by decide) rfl rfl dL_law_373 dL_law_374 dL_law_375 dL_law_376 dL_law_377 ?_
  refine K_arg F hX (i := i) (k := 2) (by omega) (by decide) rfl rfl dL_law_378 dL_law_379 dL_law_380 dL_law_381 dL_law_382 ?_
  refine K_arg F hX (i := i) (k := 3) (by omega) (by decide) rfl rfl dL_law_383 dL_law_384 dL_law_385 dL_law_386 dL_law_387 ?_
  refine K_arg F hX (i := i) (k := 4) (by omega) (by decide) rfl rfl dL_law_388 dL_law_389 dL_law_390 dL_law_391 dL_law_392 ?_
  refine K_cl (a := 0) (as := [.int (xs (i + 1)), .int (xs (i + 2)), .int (xs (i + 3)), .int (xs (i + 4))]) (rest := []) F hrm rfl dL_law_393 mr_13_30 (by decide) (Nat.le_of_ble_eq_true rfl) (by decide) rfl (Nat.le_of_ble_eq_true rfl) rfl (by decide) (by decide +kernel) (o_112 _ _ _ _ I L c0 h) (fun v I2 L2 R2 hq => ?_)
  obtain ⟨-, x, c1, rfl, rfl, h2⟩ := hq
  refine K_aload_n F (k := 2) (x := 97) dL_law_396 rfl ?_
  refine K_arg F hX (i := i) (k := 1) (by omega) (by decide) rfl rfl dL_law_397 dL_law_398 dL_law_399 dL_law_400 dL_law_401 ?_
  refine K_arg F hX (i := i) (k := 2) (by omega) (by decide) rfl rfl dL_law_402 dL_law_403 dL_law_404 dL_law_405 dL_law_406 ?_
  refine K_arg F hX (i := i) (k := 3) (by omega) (by decide) rfl rfl dL_law_407 dL_law_408 dL_law_409 dL_law_410 dL_law_411 ?_
  refine K_arg F hX (i := i) (k := 4) (by omega) (by decide) rfl rfl dL_law_412 dL_law_413 dL_law_414 dL_law_415 dL_law_416 ?_
  refine K_cl (a := 97) (as := [.int (xs (i + 1)), .int (xs (i + 2)), .int (xs (i + 3)), .int (xs (i + 4))]) (rest := [.int x]) F hrm rfl dL_law_417 mr_13_34 (by decide) (Nat.le_of_ble_eq_true rfl) (by decide) rfl (Nat.le_of_ble_eq_true rfl) rfl (by decide) (by decide +kernel) (h2) (fun v I3 L3 R3 hq => ?_)
  obtain ⟨-, rfl, c2, rfl, h3⟩ := hq
  exact K_icmp_eq F (tgt := 1988) dL_law_420 (by decide) (fun _ => hZ _ _ _ h3) (fun z => absurd rfl z)
theorem lw_5 (F : FrOK G 285 p s m meth c args) (hrm : RmOK Rm 100 0 145) (hX : ScOK G s N xs) (hi : i + 5 < N) (hZ : GO G p e Rm s m args below meth c Z 1988 i) : GO G p e Rm s m args below meth c Z 425 i := by
  intro I L c0 h
  refine K_aload_n F (k := 1) (x := 0) dL_law_425 rfl ?_
  refine K_arg F hX (i := i) (k := 1) (by omega) (by decide) rfl rfl dL_law_426 dL_law_427 dL_law_428 dL_law_429 dL_law_430 ?_
  refine K_arg F hX (i := i) (k := 2) (by omega) (by decide) rfl rfl dL_law_431 dL_law_432 dL_law_433 dL_law_434 dL_law_435 ?_
  refine K_cl (a := 0) (as := [.int (xs (i + 1)), .int (xs (i + 2))]) (rest := []) F hrm rfl dL_law_436 mr_13_35 (by decide) (Nat.le_of_ble_eq_true rfl) (by decide) rfl (Nat.le_of_ble_eq_true rfl) rfl (by decide) (by decide +kernel) (o_113 _ _ I L c0 h) (fun v I2 L2 R2 hq => ?_)
  obtain ⟨-, x, c1, rfl, rfl, h2⟩ := hq
  refine K_aload_n F (k := 2) (x := 97) dL_law_439 rfl ?_
  refine K_arg F hX (i := i) (k := 1) (by omega) (by decide) rfl rfl dL_law_440 dL_law_441 dL_law_442 dL_law_443 dL_law_444 ?_
  refine K_arg F hX (i := i) (k := 2) (by omega) (by decide) rfl rfl dL_law_445 dL_law_446 dL_law_447 dL_law_448 dL_law_449 ?_
  refine K_cl (a := 97) (as := [.int (xs (i + 1)), .int (xs (i + 2))]) (rest := [.int x]) F hrm rfl dL_law_450 mr_13_38 (by decide) (Nat.le_of_ble_eq_true rfl) (by decide) rfl (Nat.le_of_ble_eq_true rfl) rfl (by decide) (by decide +kernel) (h2) (fun v I3 L3 R3 hq => ?_)
  obtain ⟨-, rfl, c2, rfl, h3⟩ := hq
  exact K_icmp_eq F (tgt := 1988) dL_law_453 (by decide) (fun _ => hZ _ _ _ h3) (fun z => absurd rfl z)
theorem lw_6 (F : FrOK G 285 p s m meth c args) (hrm : RmOK Rm 100 0 145) (hX : ScOK G s N xs) (hi : i + 5 < N) (hZ : GO G p e Rm s m args below meth c Z 1988 i) : GO G p e Rm s m args below meth c Z 458 i := by
  intro I L c0 h
  refine K_aload_n F (k := 1) (x := 0) dL_law_458 rfl ?_
  refine K_arg F hX (i := i) (k := 1) (by omega) (by decide) rfl rfl dL_law_459 dL_law_460 dL_law_461 dL_law_462 dL_law_463 ?_
  refine K_arg F hX (i := i) (k := 2) (by omega) (by decide) rfl rfl dL_law_464 dL_law_465 dL_law_466 dL_law_467 dL_law_468 ?_
  refine K_cl (a := 0) (as := [.int (xs (i + 1)), .int (xs (i + 2))]) (rest := []) F hrm rfl dL_law_469 mr_13_39 (by decide) (Nat.le_of_ble_eq_true rfl) (by decide) rfl (Nat.le_of_ble_eq_true rfl) rfl (by decide) (by decide +kernel) (o_114 _ _ I L c0 h) (fun v I2 L2 R2 hq => ?_)
  obtain ⟨-, x, c1, rfl, rfl, h2⟩ := hq
  refine K_aload_n F (k := 2) (x := 97) dL_law_472 rfl ?_
  refine K_arg F hX (i := i) (k := 1) (by omega) (by decide) rfl rfl dL_law_473 dL_law_474 dL_law_475 dL_law_476 dL_law_477 ?_
  refine K_arg F hX (i := i) (k := 2) (by omega) (by decide) rfl rfl dL_law_478 dL_law_479 dL_law_480 dL_law_481 dL_law_482 ?_
  refine K_cl (a := 97) (as := [.int (xs (i + 1)), .int (xs (i + 2))]) (rest := [.int x]) F hrm rfl dL_law_483 mr_13_42 (by decide) (Nat.le_of_ble_eq_true rfl) (by decide) rfl (Nat.le_of_ble_eq_true rfl) rfl (by decide) (by decide +kernel) (h2) (fun v I3 L3 R3 hq => ?_)
  obtain ⟨-, rfl, c2, rfl, h3⟩ := hq
  exact K_icmp_eq F (tgt := 1988) dL_law_486 (by decide) (fun _ => hZ _ _ _ h3) (fun z => absurd rfl z)
theorem lw_7 (F : FrOK G 285 p s m meth c args) (hrm : RmOK Rm 100 0 145) (hX : ScOK G s N xs) (hi : i + 5 < N) (hZ : GO G p e Rm s m args below meth c Z 1988 i) : GO G p e Rm s m args below meth c Z 491 i := by
  intro I L c0 h
  refine K_aload_n F (k := 1) (x := 0) dL_law_491 rfl ?_
  refine K_arg F hX (i := i) (k := 1) (by omega) (by decide) rfl rfl dL_law_492 dL_law_493 dL_law_494 dL_law_495 dL_law_496 ?_
  refine K_arg F hX (i := i) (k := 2) (by omega) (by decide) rfl rfl dL_law_497 dL_law_498 dL_law_499 dL_law_500 dL_law_501 ?_
  refine K_cl (a := 0) (as := [.int (xs (i + 1)), .int (xs (i + 2))]) (rest := []) F hrm rfl dL_law_502 mr_13_43 (by decide) (Nat.le_of_ble_eq_true rfl) (by decide) rfl (Nat.le_of_ble_eq_true rfl) rfl (by decide) (by decide +kernel) (o_115 _ _ I L c0 h) (fun v I2 L2 R2 hq => ?_)
  obtain ⟨-, x, c1, rfl, rfl, h2⟩ := hq
  refine K_aload_n F (k := 2) (x := 97) dL_law_505 rfl ?_
  refine K_arg F hX (i := i) (k := 1) (by omega) (by decide) rfl rfl dL_law_506 dL_law_507 dL_law_508 dL_law_509 dL_law_510 ?_
  refine K_arg F hX (i := i) (k := 2) (by omega) (by decide) rfl rfl dL_law_511 dL_law_512 dL_law_513 dL_law_514 dL_law_515 ?_
  refine K_cl (a := 97) (as := [.int (xs (i + 1)), .int (xs (i + 2))]) (rest := [.int x]) F hrm rfl dL_law_516 mr_13_46 (by decide) (Nat.le_of_ble_eq_true rfl) (by decide) rfl (Nat.le_of_ble_eq_true rfl) rfl (by decide) (by decide +kernel) (h2) (fun v I3 L3 R3 hq => ?_)
  obtain ⟨-, rfl, c2, rfl, h3⟩ := hq
  exact K_icmp_eq F (tgt := 1988) dL_law_519 (by decide) (fun _ => hZ _ _ _ h3) (fun z => absurd rfl z)
theorem lw_8 (F : FrOK G 285 p s m meth c args) (hrm : RmOK Rm 100 0 145) (hX : ScOK G s N xs) (hi : i + 5 < N) (hZ : GO G p e Rm s m args below meth c Z 1988 i) : GO G p e Rm s m args below meth c Z 524 i := by
  intro I L c0 h
  refine K_aload_n F (k := 1) (x := 0) dL_law_524 rfl ?_
  refine K_arg F hX (i := i) (k := 1) (by omega) (by decide) rfl rfl dL_law_525 dL_law_526 dL_law_527 dL_law_528 dL_law_529 ?_
  refine K_arg F hX (i := i) (k := 2) (by omega) (by decide) rfl rfl dL_law_530 dL_law_531 dL_law_532 dL_law_533 dL_law_534 ?_
  refine K_cl (a := 0) (as := [.int (xs (i + 1)), .int (xs (i + 2))]) (rest := []) F hrm rfl dL_law_535 mr_13_47 (by decide) (Nat.le_of_ble_eq_true rfl) (by decide) rfl (Nat.le_of_ble_eq_true rfl) rfl (by decide) (by decide +kernel) (o_116 _ _ I L c0 h) (fun v I2 L2 R2 hq => ?_)
  obtain ⟨-, x, c1, rfl, rfl, h2⟩ := hq
  refine K_aload_n F (k := 2) (x := 97) dL_law_538 rfl ?_
  refine K_arg F hX (i := i) (k := 1) (by omega) (by decide) rfl rfl dL_law_539 dL_law_540 dL_law_541 dL_law_542 dL_law_543 ?_
  refine K_arg F hX (i := i) (k := 2) (by omega) (by decide) rfl rfl dL_law_544 dL_law_545 dL_law_546 dL_law_547 dL_law_548 ?_
  refine K_cl (a := 97) (as := [.int (xs (i + 1)), .int (xs (i + 2))]) (rest := [.int x]) F hrm rfl dL_law_549 mr_13_50 (by decide) (Nat.le_of_ble_eq_true rfl) (by decide) rfl (Nat.le_of_ble_eq_true rfl) rfl (by decide) (by decide +kernel) (h2) (fun v I3 L3 R3 hq => ?_)
  obtain ⟨-, rfl, c2, rfl, h3⟩ := hq
  exact K_icmp_eq F (tgt := 1988) dL_law_552 (by decide) (fun _ => hZ _ _ _ h3) (fun z => absurd rfl z)
theorem lw_9 (F : FrOK G 285 p s m meth c args) (hrm : RmOK Rm 100 0 145) (hX : ScOK G s N xs) (hi : i + 5 < N) (hZ : GO G p e Rm s m args below meth c Z 1988 i) : GO G p e Rm s m args below meth c Z 557 i := by
  intro I L c0 h
  refine K_aload_n F (k := 1) (x := 0) dL_law_557 rfl ?_
  refine K_arg F hX (i := i) (k := 1) (by omega) (by decide) rfl rfl dL_law_558 dL_law_559 dL_law_560 dL_law_561 dL_law_562 ?_
  refine K_arg F hX (i := i) (k := 2) (by omega) (by decide) rfl rfl dL_law_563 dL_law_564 dL_law_565 dL_law_566 dL_law_567 ?_
  refine K_cl (a := 0) (as := [.int (xs (i + 1)), .int (xs (i + 2))]) (rest := []) F hrm rfl dL_law_568 mr_13_51 (by decide) (Nat.le_of_ble_eq_true rfl) (by decide) rfl (Nat.le_of_ble_eq_true rfl) rfl (by decide) (by decide +kernel) (o_117 _ _ I L c0 h) (fun v I2 L2 R2 hq => ?_)
  obtain ⟨-, x, c1, rfl, rfl, h2⟩ := hq
  refine K_aload_n F (k := 2) (x := 97) dL_law_571 rfl ?_
  refine K_arg F hX (i := i) (k := 1) (by omega) (by decide) rfl rfl dL_law_572 dL_law_573 dL_law_574 dL_law_575 dL_law_576 ?_
  refine K_arg F hX (i := i) (k := 2) (by omega) (by decide) rfl rfl dL_law_577 dL_law_578 dL_law_579 dL_law_580 dL_law_581 ?_
  refine K_cl (a := 97) (as := [.int (xs (i + 1)), .int (xs (i + 2))]) (rest := [.int x]) F hrm rfl dL_law_582 mr_13_54 (by decide) (Nat.le_of_ble_eq_true rfl) (by decide) rfl (Nat.le_of_ble_eq_true rfl) rfl (by decide) (by decide +kernel) (h2) (fun v I3 L3 R3 hq => ?_)
  obtain ⟨-, rfl, c2, rfl, h3⟩ := hq
  exact K_icmp_eq F (tgt := 1988) dL_law_585 (by decide) (fun _ => hZ _ _ _ h3) (fun z => absurd rfl z)
theorem lw_10 (F : FrOK G 285 p s m meth c args) (hrm : RmOK Rm 100 0 145) (hX : ScOK G s N xs) (hi : i + 5 < N) (hZ : GO G p e Rm s m args below meth c Z 1988 i) : GO G p e Rm s m args below meth c Z 590 i := by
  intro I L c0 h
  refine K_aload_n F (k := 1) (x := 0) dL_law_590 rfl ?_
  refine K_arg F hX (i := i) (k := 1) (by omega) (by decide) rfl rfl dL_law_591 dL_law_592 dL_law_593 dL_law_594 dL_law_595 ?_
  refine K_arg F hX (i := i) (k := 2) (by omega) (by decide) rfl rfl dL_law_596 dL_law_597 dL_law_598 dL_law_599 dL_law_600 ?_
  refine K_cl (a := 0) (as := [.int (xs (i + 1)), .int (xs (i + 2))]) (rest := []) F hrm rfl dL_law_601 mr_13_55 (by decide) (Nat.le_of_ble_eq_true rfl) (by decide) rfl (Nat.le_of_ble_eq_true rfl) rfl (by decide) (by decide +kernel) (o_118 _ _ I L c0 h) (fun v I2 L2 R2 hq => ?_)
  obtain ⟨-, x, c1, rfl, rfl, h2⟩ := hq
  refine K_aload_n F (k := 2) (x := 97) dL_law_604 rfl ?_
  refine K_arg F hX (i := i) (k := 1) (by omega) (by decide) rfl rfl dL_law_605 dL_law_606 dL_law_607 dL_law_608 dL_law_609 ?_
  refine K_arg F hX (i := i) (k := 2) (by omega) (by decide) rfl rfl dL_law_610 dL_law_611 dL_law_612 dL_law_613 dL_law_614 ?_
  refine K_cl (a := 97) (as := [.int (xs (i + 1)), .int (xs (i + 2))]) (rest := [.long x]) F hrm rfl dL_law_615 mr_13_59 (by decide) (Nat.le_of_ble_eq_true rfl) (by decide) rfl (Nat.le_of_ble_eq_true rfl) rfl (by decide) (by decide +kernel) (h2) (fun v I3 L3 R3 hq => ?_)
  obtain ⟨-, rfl, c2, rfl, h3⟩ := hq
  refine K_lcmp F dL_law_618 ?_
  exact K_if_eq F (tgt := 1988) dL_law_619 (by decide) (fun _ => hZ _ _ _ h3) (fun z => absurd (cmp_s x) z)
theorem lw_11 (F : FrOK G 285 p s m meth c args) (hrm : RmOK Rm 100 0 145) (hX : ScOK G s N xs) (hi : i + 5 < N) (hZ : GO G p e Rm s m args below meth c Z 1988 i) : GO G p e Rm s m args below meth c Z 624 i := by
  intro I L c0 h
  refine K_aload_n F (k := 1) (x := 0) dL_law_624 rfl ?_
  refine K_arg F hX (i := i) (k := 1) (by omega) (by decide) rfl rfl dL_law_625 dL_law_626 dL_law_627 dL_law_628 dL_law_629 ?_
  refine K_arg F hX (i := i) (k := 2) (by omega) (by decide) rfl rfl dL_law_630 dL_law_631 dL_law_632 dL_law_633 dL_law_634 ?_
  refine K_cl (a := 0) (as := [.int (xs (i + 1)), .int (xs (i + 2))]) (rest := []) F hrm rfl dL_law_635 mr_13_60 (by decide) (Nat.le_of_ble_eq_true rfl) (by decide) rfl (Nat.le_of_ble_eq_true rfl) rfl (by decide) (by decide +kernel) (o_119 _ _ I L c0 h) (fun v I2 L2 R2 hq => ?_)
  obtain ⟨-, x, c1, rfl, rfl, h2⟩ := hq
  refine K_aload_n F (k := 2) (x := 97) dL_law_638 rfl ?_
  refine K_arg F hX (i := i) (k := 1) (by omega) (by decide) rfl rfl dL_law_639 dL_law_640 dL_law_641 dL_law_642 dL_law_643 ?_
  refine K_arg F hX (i := i) (k := 2) (by omega) (by decide) rfl rfl dL_law_644 dL_law_645 dL_law_646 dL_law_647 dL_law_648 ?_
  refine K_cl (a := 97) (as := [.int (xs (i + 1)), .int (xs (i + 2))]) (rest := [.long x]) F hrm rfl dL_law_649 mr_13_63 (by decide) (Nat.le_of_ble_eq_true rfl) (by decide) rfl (Nat.le_of_ble_eq_true rfl) rfl (by decide) (by decide +kernel) (h2) (fun v I3 L3 R3 hq => ?_)
  obtain ⟨-, rfl, c2, rfl, h3⟩ := hq
  refine K_lcmp F dL_law_652 ?_
  exact K_if_eq F (tgt := 1988) dL_law_653 (by decide) (fun _ => hZ _ _ _ h3) (fun z => absurd (cmp_s x) z)
theorem lw_13 (F : FrOK G 285 p s m meth c args) (hrm : RmOK Rm 100 0 145) (hX : ScOK G s N xs) (hi : i + 5 < N) (hZ : GO G p e Rm s m args below meth c Z 1988 i) : GO G p e Rm s m args below meth c Z 721 i := by
  intro I L c0 h
  refine K_aload_n F (k := 1) (x := 0) dL_law_721 rfl ?_
  refine K_cl (a := 0) (as := []) (rest := []) F hrm rfl dL_law_722 mr_13_71 (by decide) (Nat.le_of_ble_eq_true rfl) (by decide) rfl (Nat.le_of_ble_eq_true rfl) rfl (by decide) (by decide +kernel) (o_121 I L c0 h) (fun v I2 L2 R2 hq => ?_)
  obtain ⟨-, x, c1, rfl, rfl, h2⟩ := hq
  refine K_aload_n F (k := 2) (x := 97) dL_law_725 rfl ?_
  refine K_cl (a := 97) (as := []) (rest := [.int x]) F hrm rfl dL_law_726 mr_13_75 (by decide) (Nat.le_of_ble_eq_true rfl) (by decide) rfl (Nat.le_of_ble_eq_true rfl) rfl (by decide) (by decide +kernel) (h2) (fun v I3 L3 R3 hq => ?_)
  obtain ⟨-, rfl, c2, rfl, h3⟩ := hq
  exact K_icmp_eq F (tgt := 1988) dL_law_729 (by decide) (fun _ => hZ _ _ _ h3) (fun z => absurd rfl z)
theorem lw_14 (F : FrOK G 285 p s m meth c args) (hrm : RmOK Rm 100 0 145) (hX : ScOK G s N xs) (hi : i + 5 < N) (hZ : GO G p e Rm s m args below meth c Z 1988 i) : GO G p e Rm s m args below meth c Z 734 i := by
  intro I L c0 h
  refine K_aload_n F (k := 1) (x := 0) dL_law_734 rfl ?_
  refine K_arg F hX (i := i) (k := 1) (by omega) (by decide) rfl rfl dL_law_735 dL_law_736 dL_law_737 dL_law_738 dL_law_739 ?_
  refine K_arg F hX (i := i) (k := 2) (by omega) (by decide) rfl rfl dL_law_740 dL_law_741 dL_law_742 dL_law_743 dL_law_744 ?_
  refine K_cl (a := 0) (as := [.int (xs (i + 1)), .int (xs (i + 2))]) (rest := []) F hrm rfl dL_law_745 mr_13_76 (by decide) (Nat.le_of_ble_eq_true rfl) (by decide) rfl (Nat.le_of_ble_eq_true rfl) rfl (by decide) (by decide +kernel) (o_122 _ _ I L c0 h) (fun v I2 L2 R2 hq => ?_)
  obtain ⟨-, x, c1, rfl, rfl, h2⟩ := hq
  refine K_aload_n F (k := 2) (x := 97) dL_law_748 rfl ?_
  refine K_arg F hX (i := i) (k := 1) (by omega) (by decide) rfl rfl dL_law_749 dL_law_750 dL_law_751 dL_law_752 dL_law_753 ?_
  refine K_arg F hX (i := i) (k := 2) (by omega) (by decide) rfl rfl dL_law_754 dL_law_755 dL_law_756 dL_law_757 dL_law_758 ?_
  refine K_cl (a := 97) (as := [.int (xs (i + 1)), .int (xs (i + 2))]) (rest := [.int x]) F hrm rfl dL_law_759 mr_13_79 (by decide) (Nat.le_of_ble_eq_true rfl) (by decide) rfl (Nat.le_of_ble_eq_true rfl) rfl (by decide) (by decide +kernel) (h2) (fun v I3 L3 R3 hq => ?_)
  obtain ⟨-, rfl, c2, rfl, h3⟩ := hq
  exact K_icmp_eq F (tgt := 1988) dL_law_762 (by decide) (fun _ => hZ _ _ _ h3) (fun z => absurd rfl z)
theorem lw_15 (F : FrOK G 285 p s m meth c args) (hrm : RmOK Rm 100 0 145) (hX : ScOK G s N xs) (hi : i + 5 < N) (hZ : GO G p e Rm s m args below meth c Z 1988 i) : GO G p e Rm s m args below meth c Z 767 i := by
  intro I L c0 h
  refine K_aload_n F (k := 1) (x := 0) dL_law_767 rfl ?_
  refine K_arg F hX (i := i) (k := 1) (by omega) (by decide) rfl rfl dL_law_768 dL_law_769 dL_law_770 dL_law_771 dL_law_772 ?_
  refine K_arg F hX (i := i) (k := 2) (by omega) (by decide) rfl rfl dL_law_773 dL_law_774 dL_law_775 dL_law_776 dL_law_777 ?_
  refine K_arg F hX (i := i) (k := 3) (by omega) (by decide) rfl rfl dL_law_778 dL_law_779 dL_law_780 dL_law_781 dL_law_782 ?_
  refine K_arg F hX (i := i) (k := 4) (by omega) (by decide) rfl rfl dL_law_783 dL_law_784 dL_law_785 dL_law_786 dL_law_787 ?_
  refine K_cl (a := 0) (as := [.int (xs (i + 1)), .int (xs (i + 2)), .int (xs (i + 3)), .int (xs (i + 4))]) (rest := []) F hrm rfl dL_law_788 mr_13_80 (by decide) (Nat.le_of_ble_eq_true rfl) (by decide) rfl (Nat.le_of_ble_eq_true rfl) rfl (by decide) (by decide +kernel) (o_123 _ _ _ _ I L c0 h) (fun v I2 L2 R2 hq => ?_)
  obtain ⟨-, x, c1, rfl, rfl, h2⟩ := hq
  refine K_aload_n F (k := 2) (x := 97) dL_law_791 rfl ?_
  refine K_arg F hX (i := i) (k := 1) (by omega) (by decide) rfl rfl dL_law_792 dL_law_793 dL_law_794 dL_law_795 dL_law_796 ?_
  refine K_arg F hX (i := i) (k := 2) (by omega) (by decide) rfl rfl dL_law_797 dL_law_798 dL_law_799 dL_law_800 dL_law_801 ?_
  refine K_arg F hX (i := i) (k := 3) (by omega) (by decide) rfl rfl dL_law_802 dL_law_803 dL_law_804 dL_law_805 dL_law_806 ?_
  refine K_arg F hX (i := i) (k := 4) (by omega) (by decide) rfl rfl dL_law_807 dL_law_808 dL_law_809 dL_law_810 dL_law_811 ?_
  refine K_cl (a := 97) (as := [.int (xs (i + 1)), .int (xs (i + 2)), .int (xs (i + 3)), .int (xs (i + 4))]) (rest := [.long x]) F hrm rfl dL_law_812 mr_13_84 (by decide) (Nat.le_of_ble_eq_true rfl) (by decide) rfl (Nat.le_of_ble_eq_true rfl) rfl (by decide) (by decide +kernel) (h2) (fun v I3 L3 R3 hq => ?_)
  obtain ⟨-, rfl, c2, rfl, h3⟩ := hq
  refine K_lcmp F dL_law_815 ?_
  exact K_if_eq F (tgt := 1988) dL_law_816 (by decide) (fun _ => hZ _ _ _ h3) (fun z => absurd (cmp_s x) z)
theorem lw_16 (F : FrOK G 285 p s m meth c args) (hrm : RmOK Rm 100 0 145) (hX : ScOK G s N xs) (hi : i + 5 < N) (hZ : GO G p e Rm s m args below meth c Z 1988 i) : GO G p e Rm s m args below meth c Z 821 i := by
  intro I L c0 h
  refine K_aload_n F (k := 1) (x := 0) dL_law_821 rfl ?_
  refine K_arg F hX (i := i) (k := 1) (by omega) (by decide) rfl rfl dL_law_822 dL_law_823 dL_law_824 dL_law_825 dL_law_826 ?_
  refine K_arg F hX (i := i) (k := 2) (by omega) (by decide) rfl rfl dL_law_827 dL_law_828 dL_law_829 dL_law_830 dL_law_831 ?_
  refine K_cl (a := 0) (as := [.int (xs (i + 1)), .int (xs (i + 2))]) (rest := []) F hrm rfl dL_law_832 mr_13_85 (by decide) (Nat.le_of_ble_eq_true rfl) (by decide) rfl (Nat.le_of_ble_eq_true rfl) rfl (by decide) (by decide +kernel) (o_124 _ _ I L c0 h) (fun v I2 L2 R2 hq => ?_)
  obtain ⟨-, x, c1, rfl, rfl, h2⟩ := hq
  refine K_aload_n F (k := 2) (x := 97) dL_law_835 rfl ?_
  refine K_arg F hX (i := i) (k := 1) (by omega) (by decide) rfl rfl dL_law_836 dL_law_837 dL_law_838 dL_law_839 dL_law_840 ?_
  refine K_arg F hX (i := i) (k := 2) (by omega) (by decide) rfl rfl dL_law_841 dL_law_842 dL_law_843 dL_law_844 dL_law_845 ?_
  refine K_cl (a := 97) (as := [.int (xs (i + 1)), .int (xs (i + 2))]) (rest := [.int x]) F hrm rfl dL_law_846 mr_13_88 (by decide) (Nat.le_of_ble_eq_true rfl) (by decide) rfl (Nat.le_of_ble_eq_true rfl) rfl (by decide) (by decide +kernel) (h2) (fun v I3 L3 R3 hq => ?_)
  obtain ⟨-, rfl, c2, rfl, h3⟩ := hq
  exact K_icmp_eq F (tgt := 1988) dL_law_849 (by decide) (fun _ => hZ _ _ _ h3) (fun z => absurd rfl z)
theorem lw_17 (F : FrOK G 285 p s m meth c args) (hrm : RmOK Rm 100 0 145) (hX : ScOK G s N xs) (hi : i + 5 < N) (hZ : GO G p e Rm s m args below meth c Z 1988 i) : GO G p e Rm s m args below meth c Z 854 i := by
  intro I L c0 h
  refine K_aload_n F (k := 1) (x := 0) dL_law_854 rfl ?_
  refine K_arg F hX (i := i) (k := 1) (by omega) (by decide) rfl rfl dL_law_855 dL_law_856 dL_law_857 dL_law_858 dL_law_859 ?_
  refine K_cl (a := 0) (as := [.int (xs (i + 1))]) (rest := []) F hrm rfl dL_law_860 mr_13_89 (by decide) (Nat.le_of_ble_eq_true rfl) (by decide) rfl (Nat.le_of_ble_eq_true rfl) rfl (by decide) (by decide +kernel) (o_125 _ I L c0 h) (fun v I2 L2 R2 hq => ?_)
  obtain ⟨-, x, c1, rfl, rfl, h2⟩ := hq
  refine K_aload_n F (k := 2) (x := 97) dL_law_863 rfl ?_
  refine K_arg F hX (i := i) (k := 1) (by omega) (by decide) rfl rfl dL_law_864 dL_law_865 dL_law_866 dL_law_867 dL_law_868 ?_
  refine K_cl (a := 97) (as := [.int (xs (i + 1))]) (rest := [.int x]) F hrm rfl dL_law_869 mr_13_93 (by decide) (Nat.le_of_ble_eq_true rfl) (by decide) rfl (Nat.le_of_ble_eq_true rfl) rfl (by decide) (by decide +kernel) (h2) (fun v I3 L3 R3 hq => ?_)
  obtain ⟨-, rfl, c2, rfl, h3⟩ := hq
  exact K_icmp_eq F (tgt := 1988) dL_law_872 (by decide) (fun _ => hZ _ _ _ h3) (fun z => absurd rfl z)
theorem lw_18 (F : FrOK G 285 p s m meth c args) (hrm : RmOK Rm 100 0 145) (hX : ScOK G s N xs) (hi : i + 5 < N) (hZ : GO G p e Rm s m args below meth c Z 1988 i) : GO G p e Rm s m args below meth c Z 877 i := by
  intro I L c0 h
  refine K_aload_n F (k := 1) (x := 0) dL_law_877 rfl ?_
  refine K_arg F hX (i := i) (k := 1) (by omega) (by decide) rfl rfl dL_law_878 dL_law_879 dL_law_880 dL_law_881 dL_law_882 ?_
  refine K_arg F hX (i := i) (k := 2) (by omega) (by decide) rfl rfl dL_law_883 dL_law_884 dL_law_885 dL_law_886 dL_law_887 ?_
  refine K_arg F hX (i := i) (k := 3) (by omega) (by decide) rfl rfl dL_law_888 dL_law_889 dL_law_890 dL_law_891 dL_law_892 ?_
  refine K_arg F hX (i := i) (k := 4) (by omega) (by decide) rfl rfl dL_law_893 dL_law_894 dL_law_895 dL_law_896 dL_law_897 ?_
  refine K_arg F hX (i := i) (k := 5) (by omega) (by decide) rfl rfl dL_law_898 dL_law_899 dL_law_900 dL_law_901 dL_law_902 ?_
  refine K_cl (a := 0) (as := [.int (xs (i + 1)), .int (xs (i + 2)), .int (xs (i + 3)), .int (xs (i + 4)), .int (xs (i + 5))]) (rest := []) F hrm rfl dL_law_903 mr_13_94 (by decide) (Nat.le_of_ble_eq_true rfl) (by decide) rfl (Nat.le_of_ble_eq_true rfl) rfl (by decide) (by decide +kernel) (o_126 _ _ _ _ _ I L c0 h) (fun v I2 L2 R2 hq => ?_)
  obtain ⟨-, x, c1, rfl, rfl, h2⟩ := hq
  refine K_aload_n F (k := 2) (x := 97) dL_law_906 rfl ?_
  refine K_arg F hX (i := i) (k := 1) (by omega) (by decide) rfl rfl dL_law_907 dL_law_908 dL_law_909 dL_law_910 dL_law_911 ?_
  refine K_arg F hX (i := i) (k := 2) (by omega) (by decide) rfl rfl dL_law_912 dL_law_913 dL_law_914 dL_law_915 dL_law_916 ?_
  refine K_arg F hX (i := i) (k := 3) (by omega) (by decide) rfl rfl dL_law_917 dL_law_918 dL_law_919 dL_law_920 dL_law_921 ?_
  refine K_arg F hX (i := i) (k := 4) (by omega) (by decide) rfl rfl dL_law_922 dL_law_923 dL_law_924 dL_law_925 dL_law_926 ?_
  refine K_arg F hX (i := i) (k := 5) (by omega) (by decide) rfl rfl dL_law_927 dL_law_928 dL_law_929 dL_law_930 dL_law_931 ?_
  refine K_cl (a := 97) (as := [.int (xs (i + 1)), .int (xs (i + 2)), .int (xs (i + 3)), .int (xs (i + 4)), .int (xs (i + 5))]) (rest := [.int x]) F hrm rfl dL_law_932 mr_13_98 (by decide) (Nat.le_of_ble_eq_true rfl) (by decide) rfl (Nat.le_of_ble_eq_true rfl) rfl (by decide) (by decide +kernel) (h2) (fun v I3 L3 R3 hq => ?_)
  obtain ⟨-, rfl, c2, rfl, h3⟩ := hq
  exact K_icmp_eq F (tgt := 1988) dL_law_935 (by decide) (fun _ => hZ _ _ _ h3) (fun z => absurd rfl z)
theorem lw_19 (F : FrOK G 285 p s m meth c args) (hrm : RmOK Rm 100 0 145) (hX : ScOK G s N xs) (hi : i + 5 < N) (hZ : GO G p e Rm s m args below meth c Z 1988 i) : GO G p e Rm s m args below meth c Z 940 i := by
  intro I L c0 h
  refine K_aload_n F (k := 1) (x := 0) dL_law_940 rfl ?_
  refine K_arg F hX (i := i) (k := 1) (by omega) (by decide) rfl rfl dL_law_941 dL_law_942 dL_law_943 dL_law_944 dL_law_945 ?_
  refine K_arg F hX (i := i) (k := 2) (by omega) (by decide) rfl rfl dL_law_946 dL_law_947 dL_law_948 dL_law_949 dL_law_950 ?_
  refine K_arg F hX (i := i) (k := 3) (by omega) (by decide) rfl rfl dL_law_951 dL_law_952 dL_law_953 dL_law_954 dL_law_955 ?_
  refine K_cl (a := 0) (as := [.int (xs (i + 1)), .int (xs (i + 2)), .int (xs (i + 3))]) (rest := []) F hrm rfl dL_law_956 mr_13_99 (by decide) (Nat.le_of_ble_eq_true rfl) (by decide) rfl (Nat.le_of_ble_eq_true rfl) rfl (by decide) (by decide +kernel) (o_127 _ _ _ I L c0 h) (fun v I2 L2 R2 hq => ?_)
  obtain ⟨-, x, c1, rfl, rfl, h2⟩ := hq
  refine K_aload_n F (k := 2) (x := 97) dL_law_959 rfl ?_
  refine K_arg F hX (i := i) (k := 1) (by omega) (by decide) rfl rfl dL_law_960 dL_law_961 dL_law_962 dL_law_963 dL_law_964 ?_
  refine K_arg F hX (i := i) (k := 2) (by omega) (by decide) rfl rfl dL_law_965 dL_law_966 dL_law_967 dL_law_968 dL_law_969 ?_
  refine K_arg F hX (i := i) (k := 3) (by omega) (by decide) rfl rfl dL_law_970 dL_law_971 dL_law_972 dL_law_973 dL_law_974 ?_
  refine K_cl (a := 97) (as := [.int (xs (i + 1)), .int (xs (i + 2)), .int (xs (i + 3))]) (rest := [.int x]) F hrm rfl dL_law_975 mr_13_103 (by decide) (Nat.le_of_ble_eq_true rfl) (by decide) rfl (Nat.le_of_ble_eq_true rfl) rfl (by decide) (by decide +kernel) (h2) (fun v I3 L3 R3 hq => ?_)
  obtain ⟨-, rfl, c2, rfl, h3⟩ := hq
  exact K_icmp_eq F (tgt := 1988) dL_law_978 (by decide) (fun _ => hZ _ _ _ h3) (fun z => absurd rfl z)
theorem lw_20 (F : FrOK G 285 p s m meth c args) (hrm : RmOK Rm 100 0 145) (hX : ScOK G s N xs) (hi : i + 5 < N) (hZ : GO G p e Rm s m args below meth c Z 1988 i) : GO G p e Rm s m args below meth c Z 983 i := by
  intro I L c0 h
  refine K_aload_n F (k := 1) (x := 0) dL_law_983 rfl ?_
  refine K_arg F hX (i := i) (k := 1) (by omega) (by decide) rfl rfl dL_law_984 dL_law_985 dL_law_986 dL_law_987 dL_law_988 ?_
  refine K_arg F hX (i := i) (k := 2) (by omega) (by decide) rfl rfl dL_law_989 dL_law_990 dL_law_991 dL_law_992 dL_law_993 ?_
  refine K_arg F hX (i := i) (k := 3) (by omega) (by decide) rfl rfl dL_law_994 dL_law_995 dL_law_996 dL_law_997 dL_law_998 ?_
  refine K_cl (a := 0) (as := [.int (xs (i + 1)), .int (xs (i + 2)), .int (xs (i + 3))]) (rest := []) F hrm rfl dL_law_999 mr_13_104 (by decide) (Nat.le_of_ble_eq_true rfl) (by decide) rfl (Nat.le_of_ble_eq_true rfl) rfl (by decide) (by decide +kernel) (o_128 _ _ _ I L c0 h) (fun v I2 L2 R2 hq => ?_)
  obtain ⟨-, x, c1, rfl, rfl, h2⟩ := hq
  refine K_aload_n F (k := 2) (x := 97) dL_law_1002 rfl ?_
  refine K_arg F hX (i := i) (k := 1) (by omega) (by decide) rfl rfl dL_law_1003 dL_law_1004 dL_law_1005 dL_law_1006 dL_law_1007 ?_
  refine K_arg F hX (i := i) (k := 2) (by omega) (by decide) rfl rfl dL_law_1008 dL_law_1009 dL_law_1010 dL_law_1011 dL_law_1012 ?_
  refine K_arg F hX (i := i) (k := 3) (by omega) (by decide) rfl rfl dL_law_1013 dL_law_1014 dL_law_1015 dL_law_1016 dL_law_1017 ?_
  refine K_cl (a := 97) (as := [.int (xs (i + 1)), .int (xs (i + 2)), .int (xs (i + 3))]) (rest := [.int x]) F hrm rfl dL_law_1018 mr_13_107 (by decide) (Nat.le_of_ble_eq_true rfl) (by decide) rfl (Nat.le_of_ble_eq_true rfl) rfl (by decide) (by decide +kernel) (h2) (fun v I3 L3 R3 hq => ?_)
  obtain ⟨-, rfl, c2, rfl, h3⟩ := hq
  exact K_icmp_eq F (tgt := 1988) dL_law_1021 (by decide) (fun _ => hZ _ _ _ h3) (fun z => absurd rfl z)
theorem lw_21 (F : FrOK G 285 p s m meth c args) (hrm : RmOK Rm 100 0 145) (hX : ScOK G s N xs) (hi : i + 5 < N) (hZ : GO G p e Rm s m args below meth c Z 1988 i) : GO G p e Rm s m args below meth c Z 1026 i := by
  intro I L c0 h
  refine K_aload_n F (k := 1) (x := 0) dL_law_1026 rfl ?_
  refine K_arg F hX (i := i) (k := 1) (by omega) (by decide) rfl rfl dL_law_1027 dL_law_1028 dL_law_1029 dL_law_1030 dL_law_1031 ?_
  refine K_arg F hX (i := i) (k := 2) (by omega) (by decide) rfl rfl dL_law_1032 dL_law_1033 dL_law_1034 dL_law_1035 dL_law_1036 ?_
  refine K_arg F hX (i := i) (k := 3) (by omega) (by decide) rfl rfl dL_law_1037 dL_law_1038 dL_law_1039 dL_law_1040 dL_law_1041 ?_
  refine K_arg F hX (i := i) (k := 4) (by omega) (by decide) rfl rfl dL_law_1042 dL_law_1043 dL_law_1044 dL_law_1045 dL_law_1046 ?_
  refine K_cl (a := 0) (as := [.int (xs (i + 1)), .int (xs (i + 2)), .int (xs (i + 3)), .int (xs (i + 4))]) (rest := []) F hrm rfl dL_law_1047 mr_13_108 (by decide) (Nat.le_of_ble_eq_true rfl) (by decide) rfl (Nat.le_of_ble_eq_true rfl) rfl (by decide) (by decide +kernel) (o_129 _ _ _ _ I L c0 h) (fun v I2 L2 R2 hq => ?_)
  obtain ⟨-, x, c1, rfl, rfl, h2⟩ := hq
  refine K_aload_n F (k := 2) (x := 97) dL_law_1050 rfl ?_
  refine K_arg F hX (i := i) (k := 1) (by omega) (by decide) rfl rfl dL_law_1051 dL_law_1052 dL_law_1053 dL_law_1054 dL_law_1055 ?_
  refine K_arg F hX (i := i) (k := 2) (by omega) (by decide) rfl rfl dL_law_1056 dL_law_1057 dL_law_1058 dL_law_1059 dL_law_1060 ?_
  refine K_arg F hX (i := i) (k := 3) (by omega) (by decide) rfl rfl dL_law_1061 dL_law_1062 dL_law_1063 dL_law_1064 dL_law_1065 ?_
  refine K_arg F hX (i := i) (k := 4) (by omega) (by decide) rfl rfl dL_law_1066 dL_law_1067 dL_law_1068 dL_law_1069 dL_law_1070 ?_
  refine K_cl (a := 97) (as := [.int (xs (i + 1)), .int (xs (i + 2)), .int (xs (i + 3)), .int (xs (i + 4))]) (rest := [.int x]) F hrm rfl dL_law_1071 mr_13_111 (by decide) (Nat.le_of_ble_eq_true rfl) (by decide) rfl (Nat.le_of_ble_eq_true rfl) rfl (by decide) (by decide +kernel) (h2) (fun v I3 L3 R3 hq => ?_)
  obtain ⟨-, rfl, c2, rfl, h3⟩ := hq
  exact K_icmp_eq F (tgt := 1988) dL_law_1074 (by decide) (fun _ => hZ _ _ _ h3) (fun z => absurd rfl z)
theorem lw_22 (F : FrOK G 285 p s m meth c args) (hrm : RmOK Rm 100 0 145) (hX : ScOK G s N xs) (hi : i + 5 < N) (hZ : GO G p e Rm s m args below meth c Z 1988 i) : GO G p e Rm s m args below meth c Z 1079 i := by
  intro I L c0 h
  refine K_aload_n F (k := 1) (x := 0) dL_law_1079 rfl ?_
  refine K_arg F hX (i := i) (k := 1) (by omega) (by decide) rfl rfl dL_law_1080 dL_law_1081 dL_law_1082 dL_law_1083 dL_law_1084 ?_
  refine K_cl (a := 0) (as := [.int (xs (i + 1))]) (rest := []) F hrm rfl dL_law_1085 mr_13_112 (by decide) (Nat.le_of_ble_eq_true rfl) (by decide) rfl (Nat.le_of_ble_eq_true rfl) rfl (by decide) (by decide +kernel) (o_130 _ I L c0 h) (fun v I2 L2 R2 hq => ?_)
  obtain ⟨-, x, c1, rfl, rfl, h2⟩ := hq
  refine K_aload_n F (k := 2) (x := 97) dL_law_1088 rfl ?_
  refine K_arg F hX (i := i) (k := 1) (by omega) (by decide) rfl rfl dL_law_1089 dL_law_1090 dL_law_1091 dL_law_1092 dL_law_1093 ?_
  refine K_cl (a := 97) (as := [.int (xs (i + 1))]) (rest := [.int x]) F hrm rfl dL_law_1094 mr_13_115 (by decide) (Nat.le_of_ble_eq_true rfl) (by decide) rfl (Nat.le_of_ble_eq_true rfl) rfl (by decide) (by decide +kernel) (h2) (fun v I3 L3 R3 hq => ?_)
  obtain ⟨-, rfl, c2, rfl, h3⟩ := hq
  exact K_icmp_eq F (tgt := 1988) dL_law_1097 (by decide) (fun _ => hZ _ _ _ h3) (fun z => absurd rfl z)
theorem lw_23 (F : FrOK G 285 p s m meth c args) (hrm : RmOK Rm 100 0 145) (hX : ScOK G s N xs) (hi : i + 5 < N) (hZ : GO G p e Rm s m args below meth c Z 1988 i) : GO G p e Rm s m args below meth c Z 1102 i := by
  intro I L c0 h
  refine K_aload_n F (k := 1) (x := 0) dL_law_1102 rfl ?_
  refine K_arg F hX (i := i) (k := 1) (by omega) (by decide) rfl rfl dL_law_1103 dL_law_1104 dL_law_1105 dL_law_1106 dL_law_1107 ?_
  refine K_arg F hX (i := i) (k := 2) (by omega) (by decide) rfl rfl dL_law_1108 dL_law_1109 dL_law_1110 dL_law_1111 dL_law_1112 ?_
  refine K_cl (a := 0) (as := [.int (xs (i + 1)), .int (xs (i + 2))]) (rest := []) F hrm rfl dL_law_1113 mr_13_116 (by decide) (Nat.le_of_ble_eq_true rfl) (by decide) rfl (Nat.le_of_ble_eq_true rfl) rfl (by decide) (by decide +kernel) (o_131 _ _ I L c0 h) (fun v I2 L2 R2 hq => ?_)
  obtain ⟨-, x, c1, rfl, rfl, h2⟩ := hq
  refine K_aload_n F (k := 2) (x := 97) dL_law_1116 rfl ?_
  refine K_arg F hX (i := i) (k := 1) (by omega) (by decide) rfl rfl dL_law_1117 dL_law_1118 dL_law_1119 dL_law_1120 dL_law_1121 ?_
  refine K_arg F hX (i := i) (k := 2) (by omega) (by decide) rfl rfl dL_law_1122 dL_law_1123 dL_law_1124 dL_law_1125 dL_law_1126 ?_
  refine K_cl (a := 97) (as := [.int (xs (i + 1)), .int (xs (i + 2))]) (rest := [.int x]) F hrm rfl dL_law_1127 mr_13_119 (by decide) (Nat.le_of_ble_eq_true rfl) (by decide) rfl (Nat.le_of_ble_eq_true rfl) rfl (by decide) (by decide +kernel) (h2) (fun v I3 L3 R3 hq => ?_)
  obtain ⟨-, rfl, c2, rfl, h3⟩ := hq
  exact K_icmp_eq F (tgt := 1988) dL_law_1130 (by decide) (fun _ => hZ _ _ _ h3) (fun z => absurd rfl z)
theorem lw_24 (F : FrOK G 285 p s m meth c args) (hrm : RmOK Rm 100 0 145) (hX : ScOK G s N xs) (hi : i + 5 < N) (hZ : GO G p e Rm s m args below meth c Z 1988 i) : GO G p e Rm s m args below meth c Z 1135 i := by
  intro I L c0 h
  refine K_aload_n F (k := 1) (x := 0) dL_law_1135 rfl ?_
  refine K_cl (a := 0) (as := []) (rest := []) F hrm rfl dL_law_1136 mr_13_120 (by decide) (Nat.le_of_ble_eq_true rfl) (by decide) rfl (Nat.le_of_ble_eq_true rfl) rfl (by decide) (by decide +kernel) (o_132 I L c0 h) (fun v I2 L2 R2 hq => ?_)
  obtain ⟨-, x, c1, rfl, rfl, h2⟩ := hq
  refine K_aload_n F (k := 2) (x := 97) dL_law_1139 rfl ?_
  refine K_cl (a := 97) (as := []) (rest := [.int x]) F hrm rfl dL_law_1140 mr_13_123 (by decide) (Nat.le_of_ble_eq_true rfl) (by decide) rfl (Nat.le_of_ble_eq_true rfl) rfl (by decide) (by decide +kernel) (h2) (fun v I3 L3 R3 hq => ?_)
  obtain ⟨-, rfl, c2, rfl, h3⟩ := hq
  exact K_icmp_eq F (tgt := 1988) dL_law_1143 (by decide) (fun _ => hZ _ _ _ h3) (fun z => absurd rfl z)
theorem lw_25 (F : FrOK G 285 p s m meth c args) (hrm : RmOK Rm 100 0 145) (hX : ScOK G s N xs) (hi : i + 5 < N) (hZ : GO G p e Rm s m args below meth c Z 1988 i) : GO G p e Rm s m args below meth c Z 1148 i := by
  intro I L c0 h
  refine K_aload_n F (k := 1) (x := 0) dL_law_1148 rfl ?_
  refine K_arg F hX (i := i) (k := 1) (by omega) (by decide) rfl rfl dL_law_1149 dL_law_1150 dL_law_1151 dL_law_1152 dL_law_1153 ?_
  refine K_arg F hX (i := i) (k := 2) (by omega) (by decide) rfl rfl dL_law_1154 dL_law_1155 dL_law_1156 dL_law_1157 dL_law_1158 ?_
  refine K_arg F hX (i := i) (k := 3) (by omega) (by decide) rfl rfl dL_law_1159 dL_law_1160 dL_law_1161 dL_law_1162 dL_law_1163 ?_
  refine K_cl (a := 0) (as := [.int (xs (i + 1)), .int (xs (i + 2)), .int (xs (i + 3))]) (rest := []) F hrm rfl dL_law_1164 mr_13_124 (by decide) (Nat.le_of_ble_eq_true rfl) (by decide) rfl (Nat.le_of_ble_eq_true rfl) rfl (by decide) (by decide +kernel) (o_133 _ _ _ I L c0 h) (fun v I2 L2 R2 hq => ?_)
  obtain ⟨-, x, c1, rfl, rfl, h2⟩ := hq
  refine K_aload_n F (k := 2) (x := 97) dL_law_1167 rfl ?_
  refine K_arg F hX (i := i) (k := 1) (by omega) (by decide) rfl rfl dL_law_1168 dL_law_1169 dL_law_1170 dL_law_1171 dL_law_1172 ?_
  refine K_arg F hX (i := i) (k := 2) (by omega) (by decide) rfl rfl dL_law_1173 dL_law_1174 dL_law_1175 dL_law_1176 dL_law_1177 ?_
  refine K_arg F hX (i := i) (k := 3) (by omega) (by decide) rfl rfl dL_law_1178 dL_law_1179 dL_law_1180 dL_law_1181 dL_law_1182 ?_
  refine K_cl (a := 97) (as := [.int (xs (i + 1)), .int (xs (i + 2)), .int (xs (i + 3))]) (rest := [.int x]) F hrm rfl dL_law_1183 mr_13_127 (by decide) (Nat.le_of_ble_eq_true rfl) (by decide) rfl (Nat.le_of_ble_eq_true rfl) rfl (by decide) (by decide +kernel) (h2) (fun v I3 L3 R3 hq => ?_)
  obtain ⟨-, rfl, c2, rfl, h3⟩ := hq
  exact K_icmp_eq F (tgt := 1988) dL_law_1186 (by decide) (fun _ => hZ _ _ _ h3) (fun z => absurd rfl z)
theorem lw_26 (F : FrOK G 285 p s m meth c args) (hrm : RmOK Rm 100 0 145) (hX : ScOK G s N xs) (hi : i + 5 < N) (hZ : GO G p e Rm s m args below meth c Z 1988 i) : GO G p e Rm s m args below meth c Z 1191 i := by
  intro I L c0 h
  refine K_aload_n F (k := 1) (x := 0) dL_law_1191 rfl ?_
  refine K_arg F hX (i := i) (k := 1) (by omega) (by decide) rfl rfl dL_law_1192 dL_law_1193 dL_law_1194 dL_law_1195 dL_law_1196 ?_
  refine K_cl (a := 0) (as := [.int (xs (i + 1))]) (rest := []) F hrm rfl dL_law_1197 mr_13_128 (by decide) (Nat.le_of_ble_eq_true rfl) (by decide) rfl (Nat.le_of_ble_eq_true rfl) rfl (by decide) (by decide +kernel) (o_134 _ I L c0 h) (fun v I2 L2 R2 hq => ?_)
  obtain ⟨-, x, c1, rfl, rfl, h2⟩ := hq
  refine K_aload_n F (k := 2) (x := 97) dL_law_1200 rfl ?_
  refine K_arg F hX (i := i) (k := 1) (by omega) (by decide) rfl rfl dL_law_1201 dL_law_1202 dL_law_1203 dL_law_1204 dL_law_1205 ?_
  refine K_cl (a := 97) (as := [.int (xs (i + 1))]) (rest := [.int x]) F hrm rfl dL_law_1206 mr_13_131 (by decide) (Nat.le_of_ble_eq_true rfl) (by decide) rfl (Nat.le_of_ble_eq_true rfl) rfl (by decide) (by decide +kernel) (h2) (fun v I3 L3 R3 hq => ?_)
  obtain ⟨-, rfl, c2, rfl, h3⟩ := hq
  exact K_icmp_eq F (tgt := 1988) dL_law_1209 (by decide) (fun _ => hZ _ _ _ h3) (fun z => absurd rfl z)
theorem lw_27 (F : FrOK G 285 p s m meth c args) (hrm : RmOK Rm 100 0 145) (hX : ScOK G s N xs) (hi : i + 5 < N) (hZ : GO G p e Rm s m args below meth c Z 1988 i) : GO G p e Rm s m args below meth c Z 1214 i := by
  intro I L c0 h
  refine K_aload_n F (k := 1) (x := 0) dL_law_1214 rfl ?_
  refine K_arg F hX (i := i) (k := 1) (by omega) (by decide) rfl rfl dL_law_1215 dL_law_1216 dL_law_1217 dL_law_1218 dL_law_1219 ?_
  refine K_arg F hX (i := i) (k := 2) (by omega) (by decide) rfl rfl dL_law_1220 dL_law_1221 dL_law_1222 dL_law_1223 dL_law_1224 ?_
  refine K_arg F hX (i := i) (k := 3) (by omega) (by decide) rfl rfl dL_law_1225 dL_law_1226 dL_law_1227 dL_law_1228 dL_law_1229 ?_
  refine K_cl (a := 0) (as := [.int (xs (i + 1)), .int (xs (i + 2)), .int (xs (i + 3))]) (rest := []) F hrm rfl dL_law_1230 mr_13_132 (by decide) (Nat.le_of_ble_eq_true rfl) (by decide) rfl (Nat.le_of_ble_eq_true rfl) rfl (by decide) (by decide +kernel) (o_135 _ _ _ I L c0 h) (fun v I2 L2 R2 hq => ?_)
  obtain ⟨-, x, c1, rfl, rfl, h2⟩ := hq
  refine K_aload_n F (k := 2) (x := 97) dL_law_1233 rfl ?_
  refine K_arg F hX (i := i) (k := 1) (by omega) (by decide) rfl rfl dL_law_1234 dL_law_1235 dL_law_1236 dL_law_1237 dL_law_1238 ?_
  refine K_arg F hX (i := i) (k := 2) (by omega) (by decide) rfl rfl dL_law_1239 dL_law_1240 dL_law_1241 dL_law_1242 dL_law_1243 ?_
  refine K_arg F hX (i := i) (k := 3) (by omega) (by decide) rfl rfl dL_law_1244 dL_law_1245 dL_law_1246 dL_law_1247 dL_law_1248 ?_
  refine K_cl (a := 97) (as := [.int (xs (i + 1)), .int (xs (i + 2)), .int (xs (i + 3))]) (rest := [.int x]) F hrm rfl dL_law_1249 mr_13_135 (by decide) (Nat.le_of_ble_eq_true rfl) (by decide) rfl (Nat.le_of_ble_eq_true rfl) rfl (by decide) (by decide +kernel) (h2) (fun v I3 L3 R3 hq => ?_)
  obtain ⟨-, rfl, c2, rfl, h3⟩ := hq
  exact K_icmp_eq F (tgt := 1988) dL_law_1252 (by decide) (fun _ => hZ _ _ _ h3) (fun z => absurd rfl z)
theorem lw_28 (F : FrOK G 285 p s m meth c args) (hrm : RmOK Rm 100 0 145) (hX : ScOK G s N xs) (hi : i + 5 < N) (hZ : GO G p e Rm s m args below meth c Z 1988 i) : GO G p e Rm s m args below meth c Z 1257 i := by
  intro I L c0 h
  refine K_aload_n F (k := 1) (x := 0) dL_law_1257 rfl ?_
  refine K_cl (a := 0) (as := []) (rest := []) F hrm rfl dL_law_1258 mr_13_136 (by decide) (Nat.le_of_ble_eq_true rfl) (by decide) rfl (Nat.le_of_ble_eq_true rfl) rfl (by decide) (by decide +kernel) (o_136 I L c0 h) (fun v I2 L2 R2 hq => ?_)
  obtain ⟨-, x, c1, rfl, rfl, h2⟩ := hq
  refine K_aload_n F (k := 2) (x := 97) dL_law_1261 rfl ?_
  refine K_cl (a := 97) (as := []) (rest := [.int x]) F hrm rfl dL_law_1262 mr_13_139 (by decide) (Nat.le_of_ble_eq_true rfl) (by decide) rfl (Nat.le_of_ble_eq_true rfl) rfl (by decide) (by decide +kernel) (h2) (fun v I3 L3 R3 hq => ?_)
  obtain ⟨-, rfl, c2, rfl, h3⟩ := hq
  exact K_icmp_eq F (tgt := 1988) dL_law_1265 (by decide) (fun _ => hZ _ _ _ h3) (fun z => absurd rfl z)
theorem lw_29 (F : FrOK G 285 p s m meth c args) (hrm : RmOK Rm 100 0 145) (hX : ScOK G s N xs) (hi : i + 5 < N) (hZ : GO G p e Rm s m args below meth c Z 1988 i) : GO G p e Rm s m args below meth c Z 1270 i := by
  intro I L c0 h
  refine K_aload_n F (k := 1) (x := 0) dL_law_1270 rfl ?_
  refine K_arg F hX (i := i) (k := 1) (by omega) (by decide) rfl rfl dL_law_1271 dL_law_1272 dL_law_1273 dL_law_1274 dL_law_1275 ?_
  refine K_arg F hX (i := i) (k := 2) (by omega) (by decide) rfl rfl dL_law_1276 dL_law_1277 dL_law_1278 dL_law_1279 dL_law_1280 ?_
  refine K_cl (a := 0) (as := [.int (xs (i + 1)), .int (xs (i + 2))]) (rest := []) F hrm rfl dL_law_1281 mr_13_140 (by decide) (Nat.le_of_ble_eq_true rfl) (by decide) rfl (Nat.le_of_ble_eq_true rfl) rfl (by decide) (by decide +kernel) (o_137 _ _ I L c0 h) (fun v I2 L2 R2 hq => ?_)
  obtain ⟨-, x, c1, rfl, rfl, h2⟩ := hq
  refine K_aload_n F (k := 2) (x := 97) dL_law_1284 rfl ?_
  refine K_arg F hX (i := i) (k := 1) (by omega) (by decide) rfl rfl dL_law_1285 dL_law_1286 dL_law_1287 dL_law_1288 dL_law_1289 ?_
  refine K_arg F hX (i := i) (k := 2) (by omega) (by decide) rfl rfl dL_law_1290 dL_law_1291 dL_law_1292 dL_law_1293 dL_law_1294 ?_
  refine K_cl (a := 97) (as := [.int (xs (i + 1)), .int (xs (i + 2))]) (rest := [.int x]) F hrm rfl dL_law_1295 mr_13_143 (by decide) (Nat.le_of_ble_eq_true rfl) (by decide) rfl (Nat.le_of_ble_eq_true rfl) rfl (by decide) (by decide +kernel) (h2) (fun v I3 L3 R3 hq => ?_)
  obtain ⟨-, rfl, c2, rfl, h3⟩ := hq
  exact K_icmp_eq F (tgt := 1988) dL_law_1298 (by decide) (fun _ => hZ _ _ _ h3) (fun z => absurd rfl z)
theorem lw_30 (F : FrOK G 285 p s m meth c args) (hrm : RmOK Rm 100 0 145) (hX : ScOK G s N xs) (hi : i + 5 < N) (hZ : GO G p e Rm s m args below meth c Z 1988 i) : GO G p e Rm s m args below meth c Z 1303 i := by
  intro I L c0 h
  refine K_aload_n F (k := 1) (x := 0) dL_law_1303 rfl ?_
  refine K_arg F hX (i := i) (k := 1) (by omega) (by decide) rfl rfl dL_law_1304 dL_law_1305 dL_law_1306 dL_law_1307 dL_law_1308 ?_
  refine K_arg F hX (i := i) (k := 2) (by omega) (by decide) rfl rfl dL_law_1309 dL_law_1310 dL_law_1311 dL_law_1312 dL_law_1313 ?_
  refine K_arg F hX (i := i) (k := 3) (by omega) (by decide) rfl rfl dL_law_1314 dL_law_1315 dL_law_1316 dL_law_1317 dL_law_1318 ?_
  refine K_cl (a := 0) (as := [.int (xs (i + 1)), .int (xs (i + 2)), .int (xs (i + 3))]) (rest := []) F hrm rfl dL_law_1319 mr_13_144 (by decide) (Nat.le_of_ble_eq_true rfl) (by decide) rfl (Nat.le_of_ble_eq_true rfl) rfl (by decide) (by decide +kernel) (o_138 _ _ _ I L c0 h) (fun v I2 L2 R2 hq => ?_)
  obtain ⟨-, x, c1, rfl, rfl, h2⟩ := hq
  refine K_aload_n F (k := 2) (x := 97) dL_law_1322 rfl ?_
  refine K_arg F hX (i := i) (k := 1) (by omega) (by decide) rfl rfl dL_law_1323 dL_law_1324 dL_law_1325 dL_law_1326 dL_law_1327 ?_
  refine K_arg F hX (i := i) (k := 2) (by omega) (by decide) rfl rfl dL_law_1328 dL_law_1329 dL_law_1330 dL_law_1331 dL_law_1332 ?_
  refine K_arg F hX (i := i) (k := 3) (by omega) (by decide) rfl rfl dL_law_1333 dL_law_1334 dL_law_1335 dL_law_1336 dL_law_1337 ?_
  refine K_cl (a := 97) (as := [.int (xs (i + 1)), .int (xs (i + 2)), .int (xs (i + 3))]) (rest := [.int x]) F hrm rfl dL_law_1338 mr_13_147 (by decide) (Nat.le_of_ble_eq_true rfl) (by decide) rfl (Nat.le_of_ble_eq_true rfl) rfl (by decide) (by decide +kernel) (h2) (fun v I3 L3 R3 hq => ?_)
  obtain ⟨-, rfl, c2, rfl, h3⟩ := hq
  exact K_icmp_eq F (tgt := 1988) dL_law_1341 (by decide) (fun _ => hZ _ _ _ h3) (fun z => absurd rfl z)
theorem lw_31 (F : FrOK G 285 p s m meth c args) (hrm : RmOK Rm 100 0 145) (hX : ScOK G s N xs) (hi : i + 5 < N) (hZ : GO G p e Rm s m args below meth c Z 1988 i) : GO G p e Rm s m args below meth c Z 1346 i := by
  intro I L c0 h
  refine K_aload_n F (k := 1) (x := 0) dL_law_1346 rfl ?_
  refine K_arg F hX (i := i) (k := 1) (by omega) (by decide) rfl rfl dL_law_1347 dL_law_1348 dL_law_1349 dL_law_1350 dL_law_1351 ?_
  refine K_arg F hX (i := i) (k := 2) (by omega) (by decide) rfl rfl dL_law_1352 dL_law_1353 dL_law_1354 dL_law_1355 dL_law_1356 ?_
  refine K_arg F hX (i := i) (k := 3) (by omega) (by decide) rfl rfl dL_law_1357 dL_law_1358 dL_law_1359 dL_law_1360 dL_law_1361 ?_
  refine K_arg F hX (i := i) (k := 4) (by omega) (by decide) rfl rfl dL_law_1362 dL_law_1363 dL_law_1364 dL_law_1365 dL_law_1366 ?_
  refine K_cl (a := 0) (as := [.int (xs (i + 1)), .int (xs (i + 2)), .int (xs (i + 3)), .int (xs (i + 4))]) (rest := []) F hrm rfl dL_law_1367 mr_13_148 (by decide) (Nat.le_of_ble_eq_true rfl) (by decide) rfl (Nat.le_of_ble_eq_true rfl) rfl (by decide) (by decide +kernel) (o_139 _ _ _ _ I L c0 h) (fun v I2 L2 R2 hq => ?_)
  obtain ⟨-, x, c1, rfl, rfl, h2⟩ := hq
  refine K_aload_n F (k := 2) (x := 97) dL_law_1370 rfl ?_
  refine K_arg F hX (i := i) (k := 1) (by omega) (by decide) rfl rfl dL_law_1371 dL_law_1372 dL_law_1373 dL_law_1374 dL_law_1375 ?_
  refine K_arg F hX (i := i) (k := 2) (by omega) (by decide) rfl rfl dL_law_1376 dL_law_1377 dL_law_1378 dL_law_1379 dL_law_1380 ?_
  refine K_arg F hX (i := i) (k := 3) (by omega) (by decide) rfl rfl dL_law_1381 dL_law_1382 dL_law_1383 dL_law_1384 dL_law_1385 ?_
  refine K_arg F hX (i := i) (k := 4) (by omega) (by decide) rfl rfl dL_law_1386 dL_law_1387 dL_law_1388 dL_law_1389 dL_law_1390 ?_
  refine K_cl (a := 97) (as := [.int (xs (i + 1)), .int (xs (i + 2)), .int (xs (i + 3)), .int (xs (i + 4))]) (rest := [.int x]) F hrm rfl dL_law_1391 mr_13_151 (by decide) (Nat.le_of_ble_eq_true rfl) (by decide) rfl (Nat.le_of_ble_eq_true rfl) rfl (by decide) (by decide +kernel) (h2) (fun v I3 L3 R3 hq => ?_)
  obtain ⟨-, rfl, c2, rfl, h3⟩ := hq
  exact K_icmp_eq F (tgt := 1988) dL_law_1394 (by decide) (fun _ => hZ _ _ _ h3) (fun z => absurd rfl z)
theorem lw_32 (F : FrOK G 285 p s m meth c args) (hrm : RmOK Rm 100 0 145) (hX : ScOK G s N xs) (hi : i + 5 < N) (hZ : GO G p e Rm s m args below meth c Z 1988 i) : GO G p e Rm s m args below meth c Z 1399 i := by
  intro I L c0 h
  refine K_aload_n F (k := 1) (x := 0) dL_law_1399 rfl ?_
  refine K_arg F hX (i := i) (k := 1) (by omega) (by decide) rfl rfl dL_law_1400 dL_law_1401 dL_law_1402 dL_law_1403 dL_law_1404 ?_
  refine K_cl (a := 0) (as := [.int (xs (i + 1))]) (rest := []) F hrm rfl dL_law_1405 mr_13_152 (by decide) (Nat.le_of_ble_eq_true rfl) (by decide) rfl (Nat.le_of_ble_eq_true rfl) rfl (by decide) (by decide +kernel) (o_140 _ I L c0 h) (fun v I2 L2 R2 hq => ?_)
  obtain ⟨-, x, c1, rfl, rfl, h2⟩ := hq
  refine K_aload_n F (k := 2) (x := 97) dL_law_1408 rfl ?_
  refine K_arg F hX (i := i) (k := 1) (by omega) (by decide) rfl rfl dL_law_1409 dL_law_1410 dL_law_1411 dL_law_1412 dL_law_1413 ?_
  refine K_cl (a := 97) (as := [.int (xs (i + 1))]) (rest := [.int x]) F hrm rfl dL_law_1414 mr_13_155 (by decide) (Nat.le_of_ble_eq_true rfl) (by decide) rfl (Nat.le_of_ble_eq_true rfl) rfl (by decide) (by decide +kernel) (h2) (fun v I3 L3 R3 hq => ?_)
  obtain ⟨-, rfl, c2, rfl, h3⟩ := hq
  exact K_icmp_eq F (tgt := 1988) dL_law_1417 (by decide) (fun _ => hZ _ _ _ h3) (fun z => absurd rfl z)
theorem lw_33 (F : FrOK G 285 p s m meth c args) (hrm : RmOK Rm 100 0 145) (hX : ScOK G s N xs) (hi : i + 5 < N) (hZ : GO G p e Rm s m args below meth c Z 1988 i) : GO G p e Rm s m args below meth c Z 1422 i := by
  intro I L c0 h
  refine K_aload_n F (k := 1) (x := 0) dL_law_1422 rfl ?_
  refine K_arg F hX (i := i) (k := 1) (by omega) (by decide) rfl rfl dL_law_1423 dL_law_1424 dL_law_1425 dL_law_1426 dL_law_1427 ?_
  refine K_arg F hX (i := i) (k := 2) (by omega) (by decide) rfl rfl dL_law_1428 dL_law_1429 dL_law_1430 dL_law_1431 dL_law_1432 ?_
  refine K_arg F hX (i := i) (k := 3) (by omega) (by decide) rfl rfl dL_law_1433 dL_law_1434 dL_law_1435 dL_law_1436 dL_law_1437 ?_
  refine K_cl (a := 0) (as := [.int (xs (i + 1)), .int (xs (i + 2)), .int (xs (i + 3))]) (rest := []) F hrm rfl dL_law_1438 mr_13_156 (by decide) (Nat.le_of_ble_eq_true rfl) (by decide) rfl (Nat.le_of_ble_eq_true rfl) rfl (by decide) (by decide +kernel) (o_141 _ _ _ I L c0 h) (fun v I2 L2 R2 hq => ?_)
  obtain ⟨-, x, c1, rfl, rfl, h2⟩ := hq
  refine K_aload_n F (k := 2) (x := 97) dL_law_1441 rfl ?_
  refine K_arg F hX (i := i) (k := 1) (by omega) (by decide) rfl rfl dL_law_1442 dL_law_1443 dL_law_1444 dL_law_1445 dL_law_1446 ?_
  refine K_arg F hX (i := i) (k := 2) (by omega) (by decide) rfl rfl dL_law_1447 dL_law_1448 dL_law_1449 dL_law_1450 dL_law_1451 ?_
  refine K_arg F hX (i := i) (k := 3) (by omega) (by decide) rfl rfl dL_law_1452 dL_law_1453 dL_law_1454 dL_law_1455 dL_law_1456 ?_
  refine K_cl (a := 97) (as := [.int (xs (i + 1)), .int (xs (i + 2)), .int (xs (i + 3))]) (rest := [.int x]) F hrm rfl dL_law_1457 mr_13_159 (by decide) (Nat.le_of_ble_eq_true rfl) (by decide) rfl (Nat.le_of_ble_eq_true rfl) rfl (by decide) (by decide +kernel) (h2) (fun v I3 L3 R3 hq => ?_)
  obtain ⟨-, rfl, c2, rfl, h3⟩ := hq
  exact K_icmp_eq F (tgt := 1988) dL_law_1460 (by decide) (fun _ => hZ _ _ _ h3) (fun z => absurd rfl z)
theorem lw_34 (F : FrOK G 285 p s m meth c args) (hrm : RmOK Rm 100 0 145) (hX : ScOK G s N xs) (hi : i + 5 < N) (hZ : GO G p e Rm s m args below meth c Z 1988 i) : GO G p e Rm s m args below meth c Z 1465 i := by
  intro I L c0 h
  refine K_aload_n F (k := 1) (x := 0) dL_law_1465 rfl ?_
  refine K_arg F hX (i := i) (k := 1) (by omega) (by decide) rfl rfl dL_law_1466 dL_law_1467 dL_law_1468 dL_law_1469 dL_law_1470 ?_
  refine K_arg F hX (i := i) (k := 2) (by omega) (by decide) rfl rfl dL_law_1471 dL_law_1472 dL_law_1473 dL_law_1474 dL_law_1475 ?_
  refine K_arg F hX (i := i) (k := 3) (by omega) (by decide) rfl rfl dL_law_1476 dL_law_1477 dL_law_1478 dL_law_1479 dL_law_1480 ?_
  refine K_cl (a := 0) (as := [.int (xs (i + 1)), .int (xs (i + 2)), .int (xs (i + 3))]) (rest := []) F hrm rfl dL_law_1481 mr_13_160 (by decide) (Nat.le_of_ble_eq_true rfl) (by decide) rfl (Nat.le_of_ble_eq_true rfl) rfl (by decide) (by decide +kernel) (o_142 _ _ _ I L c0 h) (fun v I2 L2 R2 hq => ?_)
  obtain ⟨-, x, c1, rfl, rfl, h2⟩ := hq
  refine K_aload_n F (k := 2) (x := 97) dL_law_1484 rfl ?_
  refine K_arg F hX (i := i) (k := 1) (by omega) (by decide) rfl rfl dL_law_1485 dL_law_1486 dL_law_1487 dL_law_1488 dL_law_1489 ?_
  refine K_arg F hX (i := i) (k := 2) (by omega) (by decide) rfl rfl dL_law_1490 dL_law_1491 dL_law_1492 dL_law_1493 dL_law_1494 ?_
  refine K_arg F hX (i := i) (k := 3) (by omega) (by decide) rfl rfl dL_law_1495 dL_law_1496 dL_law_1497 dL_law_1498 dL_law_1499 ?_
  refine K_cl (a := 97) (as := [.int (xs (i + 1)), .int (xs (i + 2)), .int (xs (i + 3))]) (rest := [.int x]) F hrm rfl dL_law_1500 mr_13_163 (by decide) (Nat.le_of_ble_eq_true rfl) (by decide) rfl (Nat.le_of_ble_eq_true rfl) rfl (by decide) (by decide +kernel) (h2) (fun v I3 L3 R3 hq => ?_)
  obtain ⟨-, rfl, c2, rfl, h3⟩ := hq
  exact K_icmp_eq F (tgt := 1988) dL_law_1503 (by decide) (fun _ => hZ _ _ _ h3) (fun z => absurd rfl z)
theorem lw_35 (F : FrOK G 285 p s m meth c args) (hrm : RmOK Rm 100 0 145) (hX : ScOK G s N xs) (hi : i + 5 < N) (hZ : GO G p e Rm s m args below meth c Z 1988 i) : GO G p e Rm s m args below meth c Z 1508 i := by
  intro I L c0 h
  refine K_aload_n F (k := 1) (x := 0) dL_law_1508 rfl ?_
  refine K_arg F hX (i := i) (k := 1) (by omega) (by decide) rfl rfl dL_law_1509 dL_law_1510 dL_law_1511 dL_law_1512 dL_law_1513 ?_
  refine K_cl (a := 0) (as := [.int (xs (i + 1))]) (rest := []) F hrm rfl dL_law_1514 mr_13_164 (by decide) (Nat.le_of_ble_eq_true rfl) (by decide) rfl (Nat.le_of_ble_eq_true rfl) rfl (by decide) (by decide +kernel) (o_143 _ I L c0 h) (fun v I2 L2 R2 hq => ?_)
  obtain ⟨-, x, c1, rfl, rfl, h2⟩ := hq
  refine K_aload_n F (k := 2) (x := 97) dL_law_1517 rfl ?_
  refine K_arg F hX (i := i) (k := 1) (by omega) (by decide) rfl rfl dL_law_1518 dL_law_1519 dL_law_1520 dL_law_1521 dL_law_1522 ?_
  refine K_cl (a := 97) (as := [.int (xs (i + 1))]) (rest := [.int x]) F hrm rfl dL_law_1523 mr_13_167 (by decide) (Nat.le_of_ble_eq_true rfl) (by decide) rfl (Nat.le_of_ble_eq_true rfl) rfl (by decide) (by decide +kernel) (h2) (fun v I3 L3 R3 hq => ?_)
  obtain ⟨-, rfl, c2, rfl, h3⟩ := hq
  exact K_icmp_eq F (tgt := 1988) dL_law_1526 (by decide) (fun _ => hZ _ _ _ h3) (fun z => absurd rfl z)
theorem lw_36 (F : FrOK G 285 p s m meth c args) (hrm : RmOK Rm 100 0 145) (hX : ScOK G s N xs) (hi : i + 5 < N) (hZ : GO G p e Rm s m args below meth c Z 1988 i) : GO G p e Rm s m args below meth c Z 1531 i := by
  intro I L c0 h
  refine K_aload_n F (k := 1) (x := 0) dL_law_1531 rfl ?_
  refine K_arg F hX (i := i) (k := 1) (by omega) (by decide) rfl rfl dL_law_1532 dL_law_1533 dL_law_1534 dL_law_1535 dL_law_1536 ?_
  refine K_arg F hX (i := i) (k := 2) (by omega) (by decide) rfl rfl dL_law_1537 dL_law_1538 dL_law_1539 dL_law_1540 dL_law_1541 ?_
  refine K_arg F hX (i := i) (k := 3) (by omega) (by decide) rfl rfl dL_law_1542 dL_law_1543 dL_law_1544 dL_law_1545 dL_law_1546 ?_
  refine K_cl (a := 0) (as := [.int (xs (i + 1)), .int (xs (i + 2)), .int (xs (i + 3))]) (rest := []) F hrm rfl dL_law_1547 mr_13_168 (by decide) (Nat.le_of_ble_eq_true rfl) (by decide) rfl (Nat.le_of_ble_eq_true rfl) rfl (by decide) (by decide +kernel) (o_144 _ _ _ I L c0 h) (fun v I2 L2 R2 hq => ?_)
  obtain ⟨-, x, c1, rfl, rfl, h2⟩ := hq
  refine K_aload_n F (k := 2) (x := 97) dL_law_1550 rfl ?_
  refine K_arg F hX (i := i) (k := 1) (by omega) (by decide) rfl rfl dL_law_1551 dL_law_1552 dL_law_1553 dL_law_1554 dL_law_1555 ?_
  refine K_arg F hX (i := i) (k := 2) (by omega) (by decide) rfl rfl dL_law_1556 dL_law_1557 dL_law_1558 dL_law_1559 dL_law_1560 ?_
  refine K_arg F hX (i := i) (k := 3) (by omega) (by decide) rfl rfl dL_law_1561 dL_law_1562 dL_law_1563 dL_law_1564 dL_law_1565 ?_
  refine K_cl (a := 97) (as := [.int (xs (i + 1)), .int (xs (i + 2)), .int (xs (i + 3))]) (rest := [.int x]) F hrm rfl dL_law_1566 mr_13_171 (by decide) (Nat.le_of_ble_eq_true rfl) (by decide) rfl (Nat.le_of_ble_eq_true rfl) rfl (by decide) (by decide +kernel) (h2) (fun v I3 L3 R3 hq => ?_)
  obtain ⟨-, rfl, c2, rfl, h3⟩ := hq
  exact K_icmp_eq F (tgt := 1988) dL_law_1569 (by decide) (fun _ => hZ _ _ _ h3) (fun z => absurd rfl z)
theorem lw_37 (F : FrOK G 285 p s m meth c args) (hrm : RmOK Rm 100 0 145) (hX : ScOK G s N xs) (hi : i + 5 < N) (hZ : GO G p e Rm s m args below meth c Z 1988 i) : GO G p e Rm s m args below meth c Z 1574 i := by
  intro I L c0 h
  refine K_aload_n F (k := 1) (x := 0) dL_law_1574 rfl ?_
  refine K_arg F hX (i := i) (k := 1) (by omega) (by decide) rfl rfl dL_law_1575 dL_law_1576 dL_law_1577 dL_law_1578 dL_law_1579 ?_
  refine K_arg F hX (i := i) (k := 2) (by omega) (by decide) rfl rfl dL_law_1580 dL_law_1581 dL_law_1582 dL_law_1583 dL_law_1584 ?_
  refine K_cl (a := 0) (as := [.int (xs (i + 1)), .int (xs (i + 2))]) (rest := []) F hrm rfl dL_law_1585 mr_13_172 (by decide) (Nat.le_of_ble_eq_true rfl) (by decide) rfl (Nat.le_of_ble_eq_true rfl) rfl (by decide) (by decide +kernel) (o_145 _ _ I L c0 h) (fun v I2 L2 R2 hq => ?_)
  obtain ⟨-, x, c1, rfl, rfl, h2⟩ := hq
  refine K_aload_n F (k := 2) (x := 97) dL_law_1588 rfl ?_
  refine K_arg F hX (i := i) (k := 1) (by omega) (by decide) rfl rfl dL_law_1589 dL_law_1590 dL_law_1591 dL_law_1592 dL_law_1593 ?_
  refine K_arg F hX (i := i) (k := 2) (by omega) (by decide) rfl rfl dL_law_1594 dL_law_1595 dL_law_1596 dL_law_1597 dL_law_1598 ?_
  refine K_cl (a := 97) (as := [.int (xs (i + 1)), .int (xs (i + 2))]) (rest := [.int x]) F hrm rfl dL_law_1599 mr_13_175 (by decide) (Nat.le_of_ble_eq_true rfl) (by decide) rfl (Nat.le_of_ble_eq_true rfl) rfl (by decide) (by decide +kernel) (h2) (fun v I3 L3 R3 hq => ?_)
  obtain ⟨-, rfl, c2, rfl, h3⟩ := hq
  exact K_icmp_eq F (tgt := 1988) dL_law_1602 (by decide) (fun _ => hZ _ _ _ h3) (fun z => absurd rfl z)
theorem lw_38 (F : FrOK G 285 p s m meth c args) (hrm : RmOK Rm 100 0 145) (hX : ScOK G s N xs) (hi : i + 5 < N) (hZ : GO G p e Rm s m args below meth c Z 1988 i) : GO G p e Rm s m args below meth c Z 1607 i := by
  intro I L c0 h
  refine K_aload_n F (k := 1) (x := 0) dL_law_1607 rfl ?_
  refine K_arg F hX (i := i) (k := 1) (by omega) (by decide) rfl rfl dL_law_1608 dL_law_1609 dL_law_1610 dL_law_1611 dL_law_1612 ?_
  refine K_cl (a := 0) (as := [.int (xs (i + 1))]) (rest := []) F hrm rfl dL_law_1613 mr_13_176 (by decide) (Nat.le_of_ble_eq_true rfl) (by decide) rfl (Nat.le_of_ble_eq_true rfl) rfl (by decide) (by decide +kernel) (o_146 _ I L c0 h) (fun v I2 L2 R2 hq => ?_)
  obtain ⟨-, x, c1, rfl, rfl, h2⟩ := hq
  refine K_aload_n F (k := 2) (x := 97) dL_law_1616 rfl ?_
  refine K_arg F hX (i := i) (k := 1) (by omega) (by decide) rfl rfl dL_law_1617 dL_law_1618 dL_law_1619 dL_law_1620 dL_law_1621 ?_
  refine K_cl (a := 97) (as := [.int (xs (i + 1))]) (rest := [.int x]) F hrm rfl dL_law_1622 mr_13_179 (by decide) (Nat.le_of_ble_eq_true rfl) (by decide) rfl (Nat.le_of_ble_eq_true rfl) rfl (by decide) (by decide +kernel) (h2) (fun v I3 L3 R3 hq => ?_)
  obtain ⟨-, rfl, c2, rfl, h3⟩ := hq
  exact K_icmp_eq F (tgt := 1988) dL_law_1625 (by decide) (fun _ => hZ _ _ _ h3) (fun z => absurd rfl z)
theorem lw_39 (F : FrOK G 285 p s m meth c args) (hrm : RmOK Rm 100 0 145) (hX : ScOK G s N xs) (hi : i + 5 < N) (hZ : GO G p e Rm s m args below meth c Z 1988 i) : GO G p e Rm s m args below meth c Z 1630 i := by
  intro I L c0 h
  refine K_aload_n F (k := 1) (x := 0) dL_law_1630 rfl ?_
  refine K_arg F hX (i := i) (k := 1) (by omega) (by decide) rfl rfl dL_law_1631 dL_law_1632 dL_law_1633 dL_law_1634 dL_law_1635 ?_
  refine K_cl (a := 0) (as := [.int (xs (i + 1))]) (rest := []) F hrm rfl dL_law_1636 mr_13_180 (by decide) (Nat.le_of_ble_eq_true rfl) (by decide) rfl (Nat.le_of_ble_eq_true rfl) rfl (by decide) (by decide +kernel) (o_147 _ I L c0 h) (fun v I2 L2 R2 hq => ?_)
  obtain ⟨-, x, c1, rfl, rfl, h2⟩ := hq
  refine K_aload_n F (k := 2) (x := 97) dL_law_1639 rfl ?_
  refine K_arg F hX (i := i) (k := 1) (by omega) (by decide) rfl rfl dL_law_1640 dL_law_1641 dL_law_1642 dL_law_1643 dL_law_1644 ?_
  refine K_cl (a := 97) (as := [.int (xs (i + 1))]) (rest := [.int x]) F hrm rfl dL_law_1645 mr_13_183 (by decide) (Nat.le_of_ble_eq_true rfl) (by decide) rfl (Nat.le_of_ble_eq_true rfl) rfl (by decide) (by decide +kernel) (h2) (fun v I3 L3 R3 hq => ?_)
  obtain ⟨-, rfl, c2, rfl, h3⟩ := hq
  exact K_icmp_eq F (tgt := 1988) dL_law_1648 (by decide) (fun _ => hZ _ _ _ h3) (fun z => absurd rfl z)
theorem lw_40 (F : FrOK G 285 p s m meth c args) (hrm : RmOK Rm 100 0 145) (hX : ScOK G s N xs) (hi : i + 5 < N) (hZ : GO G p e Rm s m args below meth c Z 1988 i) : GO G p e Rm s m args below meth c Z 1653 i := by
  intro I L c0 h
  refine K_aload_n F (k := 1) (x := 0) dL_law_1653 rfl ?_
  refine K_arg F hX (i := i) (k := 1) (by omega) (by decide) rfl rfl dL_law_1654 dL_law_1655 dL_law_1656 dL_law_1657 dL_law_1658 ?_
  refine K_arg F hX (i := i) (k := 2) (by omega) (by decide) rfl rfl dL_law_1659 dL_law_1660 dL_law_1661 dL_law_1662 dL_law_1663 ?_
  refine K_arg F hX (i := i) (k := 3) (by omega) (by decide) rfl rfl dL_law_1664 dL_law_1665 dL_law_1666 dL_law_1667 dL_law_1668 ?_
  refine K_cl (a := 0) (as := [.int (xs (i + 1)), .int (xs (i + 2)), .int (xs (i + 3))]) (rest := []) F hrm rfl dL_law_1669 mr_13_184 (by decide) (Nat.le_of_ble_eq_true rfl) (by decide) rfl (Nat.le_of_ble_eq_true rfl) rfl (by decide) (by decide +kernel) (o_148 _ _ _ I L c0 h) (fun v I2 L2 R2 hq => ?_)
  obtain ⟨-, x, c1, rfl, rfl, h2⟩ := hq
  refine K_aload_n F (k := 2) (x := 97) dL_law_1672 rfl ?_
  refine K_arg F hX (i := i) (k := 1) (by omega) (by decide) rfl rfl dL_law_1673 dL_law_1674 dL_law_1675 dL_law_1676 dL_law_1677 ?_
  refine K_arg F hX (i := i) (k := 2) (by omega) (by decide) rfl rfl dL_law_1678 dL_law_1679 dL_law_1680 dL_law_1681 dL_law_1682 ?_
  refine K_arg F hX (i := i) (k := 3) (by omega) (by decide) rfl rfl dL_law_1683 dL_law_1684 dL_law_1685 dL_law_1686 dL_law_1687 ?_
  refine K_cl (a := 97) (as := [.int (xs (i + 1)), .int (xs (i + 2)), .int (xs (i + 3))]) (rest := [.int x]) F hrm rfl dL_law_1688 mr_13_187 (by decide) (Nat.le_of_ble_eq_true rfl) (by decide) rfl (Nat.le_of_ble_eq_true rfl) rfl (by decide) (by decide +kernel) (h2) (fun v I3 L3 R3 hq => ?_)
  obtain ⟨-, rfl, c2, rfl, h3⟩ := hq
  exact K_icmp_eq F (tgt := 1988) dL_law_1691 (by decide) (fun _ => hZ _ _ _ h3) (fun z => absurd rfl z)
theorem lw_41 (F : FrOK G 285 p s m meth c args) (hrm : RmOK Rm 100 0 145) (hX : ScOK G s N xs) (hi : i + 5 < N) (hZ : GO G p e Rm s m args below meth c Z 1988 i) : GO G p e Rm s m args below meth c Z 1696 i := by
  intro I L c0 h
  refine K_aload_n F (k := 1) (x := 0) dL_law_1696 rfl ?_
  refine K_arg F hX (i := i) (k := 1) (by omega) (by decide) rfl rfl dL_law_1697 dL_law_1698 dL_law_1699 dL_law_1700 dL_law_1701 ?_
  refine K_cl (a := 0) (as := [.int (xs (i + 1))]) (rest := []) F hrm rfl dL_law_1702 mr_13_188 (by decide) (Nat.le_of_ble_eq_true rfl) (by decide) rfl (Nat.le_of_ble_eq_true rfl) rfl (by decide) (by decide +kernel) (o_149 _ I L c0 h) (fun v I2 L2 R2 hq => ?_)
  obtain ⟨-, x, c1, rfl, rfl, h2⟩ := hq
  refine K_aload_n F (k := 2) (x := 97) dL_law_1705 rfl ?_
  refine K_arg F hX (i := i) (k := 1) (by omega) (by decide) rfl rfl dL_law_1706 dL_law_1707 dL_law_1708 dL_law_1709 dL_law_1710 ?_
  refine K_cl (a := 97) (as := [.int (xs (i + 1))]) (rest := [.long x]) F hrm rfl dL_law_1711 mr_13_192 (by decide) (Nat.le_of_ble_eq_true rfl) (by decide) rfl (Nat.le_of_ble_eq_true rfl) rfl (by decide) (by decide +kernel) (h2) (fun v I3 L3 R3 hq => ?_)
  obtain ⟨-, rfl, c2, rfl, h3⟩ := hq
  refine K_lcmp F dL_law_1714 ?_
  exact K_if_eq F (tgt := 1988) dL_law_1715 (by decide) (fun _ => hZ _ _ _ h3) (fun z => absurd (cmp_s x) z)
theorem lw_42 (F : FrOK G 285 p s m meth c args) (hrm : RmOK Rm 100 0 145) (hX : ScOK G s N xs) (hi : i + 5 < N) (hZ : GO G p e Rm s m args below meth c Z 1988 i) : GO G p e Rm s m args below meth c Z 1720 i := by
  intro I L c0 h
  refine K_aload_n F (k := 1) (x := 0) dL_law_1720 rfl ?_
  refine K_arg F hX (i := i) (k := 1) (by omega) (by decide) rfl rfl dL_law_1721 dL_law_1722 dL_law_1723 dL_law_1724 dL_law_1725 ?_
  refine K_cl (a := 0) (as := [.int (xs (i + 1))]) (rest := []) F hrm rfl dL_law_1726 mr_13_193 (by decide) (Nat.le_of_ble_eq_true rfl) (by decide) rfl (Nat.le_of_ble_eq_true rfl) rfl (by decide) (by decide +kernel) (o_150 _ I L c0 h) (fun v I2 L2 R2 hq => ?_)
  obtain ⟨-, x, c1, rfl, rfl, h2⟩ := hq
  refine K_aload_n F (k := 2) (x := 97) dL_law_1729 rfl ?_
  refine K_arg F hX (i := i) (k := 1) (by omega) (by decide) rfl rfl dL_law_1730 dL_law_1731 dL_law_1732 dL_law_1733 dL_law_1734 ?_
  refine K_cl (a := 97) (as := [.int (xs (i + 1))]) (rest := [.int x]) F hrm rfl dL_law_1735 mr_13_196 (by decide) (Nat.le_of_ble_eq_true rfl) (by decide) rfl (Nat.le_of_ble_eq_true rfl) rfl (by decide) (by decide +kernel) (h2) (fun v I3 L3 R3 hq => ?_)
  obtain ⟨-, rfl, c2, rfl, h3⟩ := hq
  exact K_icmp_eq F (tgt := 1988) dL_law_1738 (by decide) (fun _ => hZ _ _ _ h3) (fun z => absurd rfl z)
theorem lw_43 (F : FrOK G 285 p s m meth c args) (hrm : RmOK Rm 100 0 145) (hX : ScOK G s N xs) (hi : i + 5 < N) (hZ : GO G p e Rm s m args below meth c Z 1988 i) : GO G p e Rm s m args below meth c Z 1743 i := by
  intro I L c0 h
  refine K_aload_n F (k := 1) (x := 0) dL_law_1743 rfl ?_
  refine K_arg F hX (i := i) (k := 1) (by omega) (by decide) rfl rfl dL_law_1744 dL_law_1745 dL_law_1746 dL_law_1747 dL_law_1748 ?_
  refine K_arg F hX (i := i) (k := 2) (by omega) (by decide) rfl rfl dL_law_1749 dL_law_1750 dL_law_1751 dL_law_1752 dL_law_1753 ?_
  refine K_arg F hX (i := i) (k := 3) (by omega) (by decide) rfl rfl dL_law_1754 dL_law_1755 dL_law_1756 dL_law_1757 dL_law_1758 ?_
  refine K_cl (a := 0) (as := [.int (xs (i + 1)), .int (xs (i + 2)), .int (xs (i + 3))]) (rest := []) F hrm rfl dL_law_1759 mr_13_197 (by decide) (Nat.le_of_ble_eq_true rfl) (by decide) rfl (Nat.le_of_ble_eq_true rfl) rfl (by decide) (by decide +kernel) (o_151 _ _ _ I L c0 h) (fun v I2 L2 R2 hq => ?_)
  obtain ⟨-, x, c1, rfl, rfl, h2⟩ := hq
  refine K_aload_n F (k := 2) (x := 97) dL_law_1762 rfl ?_
  refine K_arg F hX (i := i) (k := 1) (by omega) (by decide) rfl rfl dL_law_1763 dL_law_1764 dL_law_1765 dL_law_1766 dL_law_1767 ?_
  refine K_arg F hX (i := i) (k := 2) (by omega) (by decide) rfl rfl dL_law_1768 dL_law_1769 dL_law_1770 dL_law_1771 dL_law_1772 ?_
  refine K_arg F hX (i := i) (k := 3) (by omega) (by decide) rfl rfl dL_law_1773 dL_law_1774 dL_law_1775 dL_law_1776 dL_law_1777 ?_
  refine K_cl (a := 97) (as := [.int (xs (i + 1)), .int (xs (i + 2)), .int (xs (i + 3))]) (rest := [.int x]) F hrm rfl dL_law_1778 mr_13_200 (by decide) (Nat.le_of_ble_eq_true rfl) (by decide) rfl (Nat.le_of_ble_eq_true rfl) rfl (by decide) (by decide +kernel) (h2) (fun v I3 L3 R3 hq => ?_)
  obtain ⟨-, rfl, c2, rfl, h3⟩ := hq
  exact K_icmp_eq F (tgt := 1988) dL_law_1781 (by decide) (fun _ => hZ _ _ _ h3) (fun z => absurd rfl z)
theorem lw_44 (F : FrOK G 285 p s m meth c args) (hrm : RmOK Rm 100 0 145) (hX : ScOK G s N xs) (hi : i + 5 < N) (hZ : GO G p e Rm s m args below meth c Z 1988 i) : GO G p e Rm s m args below meth c Z 1786 i := by
  intro I L c0 h
  refine K_aload_n F (k := 1) (x := 0) dL_law_1786 rfl ?_
  refine K_arg F hX (i := i) (k := 1) (by omega) (by decide) rfl rfl dL_law_1787 dL_law_1788 dL_law_1789 dL_law_1790 dL_law_1791 ?_
  refine K_arg F hX (i := i) (k := 2) (by omega) (by decide) rfl rfl dL_law_1792 dL_law_1793 dL_law_1794 dL_law_1795 dL_law_1796 ?_
  refine K_arg F hX (i := i) (k := 3) (by omega) (by decide) rfl rfl dL_law_1797 dL_law_1798 dL_law_1799 dL_law_1800 dL_law_1801 ?_
  refine K_cl (a := 0) (as := [.int (xs (i + 1)), .int (xs (i + 2)), .int (xs (i + 3))]) (rest := []) F hrm rfl dL_law_1802 mr_13_201 (by decide) (Nat.le_of_ble_eq_true rfl) (by decide) rfl (Nat.le_of_ble_eq_true rfl) rfl (by decide) (by decide +kernel) (o_152 _ _ _ I L c0 h) (fun v I2 L2 R2 hq => ?_)
  obtain ⟨-, x, c1, rfl, rfl, h2⟩ := hq
  refine K_aload_n F (k := 2) (x := 97) dL_law_1805 rfl ?_
  refine K_arg F hX (i := i) (k := 1) (by omega) (by decide) rfl rfl dL_law_1806 dL_law_1807 dL_law_1808 dL_law_1809 dL_law_1810 ?_
  refine K_arg F hX (i := i) (k := 2) (by omega) (by decide) rfl rfl dL_law_1811 dL_law_1812 dL_law_1813 dL_law_1814 dL_law_1815 ?_
  refine K_arg F hX (i := i) (k := 3) (by omega) (by decide) rfl rfl dL_law_1816 dL_law_1817 dL_law_1818 dL_law_1819 dL_law_1820 ?_
  refine K_cl (a := 97) (as := [.int (xs (i + 1)), .int (xs (i + 2)), .int (xs (i + 3))]) (rest := [.int x]) F hrm rfl dL_law_1821 mr_13_204 (by decide) (Nat.le_of_ble_eq_true rfl) (by decide) rfl (Nat.le_of_ble_eq_true rfl) rfl (by decide) (by decide +kernel) (h2) (fun v I3 L3 R3 hq => ?_)
  obtain ⟨-, rfl, c2, rfl, h3⟩ := hq
  exact K_icmp_eq F (tgt := 1988) dL_law_1824 (by decide) (fun _ => hZ _ _ _ h3) (fun z => absurd rfl z)
theorem lw_45 (F : FrOK G 285 p s m meth c args) (hrm : RmOK Rm 100 0 145) (hX : ScOK G s N xs) (hi : i + 5 < N) (hZ : GO G p e Rm s m args below meth c Z 1988 i) : GO G p e Rm s m args below meth c Z 1829 i := by
  intro I L c0 h
  refine K_aload_n F (k := 1) (x := 0) dL_law_1829 rfl ?_
  refine K_arg F hX (i := i) (k := 1) (by omega) (by decide) rfl rfl dL_law_1830 dL_law_1831 dL_law_1832 dL_law_1833 dL_law_1834 ?_
  refine K_arg F hX (i := i) (k := 2) (by omega) (by decide) rfl rfl dL_law_1835 dL_law_1836 dL_law_1837 dL_law_1838 dL_law_1839 ?_
  refine K_arg F hX (i := i) (k := 3) (by omega) (by decide) rfl rfl dL_law_1840 dL_law_1841 dL_law_1842 dL_law_1843 dL_law_1844 ?_
  refine K_arg F hX (i := i) (k := 4) (by omega) (by decide) rfl rfl dL_law_1845 dL_law_1846 dL_law_1847 dL_law_1848 dL_law_1849 ?_
  refine K_arg F hX (i := i) (k := 5) (by omega) (by decide) rfl rfl dL_law_1850 dL_law_1851 dL_law_1852 dL_law_1853 dL_law_1854 ?_
  refine K_cl (a := 0) (as := [.int (xs (i + 1)), .int (xs (i + 2)), .int (xs (i + 3)), .int (xs (i + 4)), .int (xs (i + 5))]) (rest := []) F hrm rfl dL_law_1855 mr_13_205 (by decide) (Nat.le_of_ble_eq_true rfl) (by decide) rfl (Nat.le_of_ble_eq_true rfl) rfl (by decide) (by decide +kernel) (o_153 _ _ _ _ _ I L c0 h) (fun v I2 L2 R2 hq => ?_)
  obtain ⟨-, x, c1, rfl, rfl, h2⟩ := hq
  refine K_aload_n F (k := 2) (x := 97) dL_law_1858 rfl ?_
  refine K_arg F hX (i := i) (k := 1) (by omega) (by decide) rfl rfl dL_law_1859 dL_law_1860 dL_law_1861 dL_law_1862 dL_law_1863 ?_
  refine K_arg F hX (i := i) (k := 2) (by omega) (by decide) rfl rfl dL_law_1864 dL_law_1865 dL_law_1866 dL_law_1867 dL_law_1868 ?_
  refine K_arg F hX (i := i) (k := 3) (by omega) (by decide) rfl rfl dL_law_1869 dL_law_1870 dL_law_1871 dL_law_1872 dL_law_1873 ?_
  refine K_arg F hX (i := i) (k := 4) (by omega) (by decide) rfl rfl dL_law_1874 dL_law_1875 dL_law_1876 dL_law_1877 dL_law_1878 ?_
  refine K_arg F hX (i := i) (k := 5) (by omega) (by decide) rfl rfl dL_law_1879 dL_law_1880 dL_law_1881 dL_law_1882 dL_law_1883 ?_
  refine K_cl (a := 97) (as := [.int (xs (i + 1)), .int (xs (i + 2)), .int (xs (i + 3)), .int (xs (i + 4)), .int (xs (i + 5))]) (rest := [.int x]) F hrm rfl dL_law_1884 mr_13_208 (by decide) (Nat.le_of_ble_eq_true rfl) (by decide) rfl (Nat.le_of_ble_eq_true rfl) rfl (by decide) (by decide +kernel) (h2) (fun v I3 L3 R3 hq => ?_)
  obtain ⟨-, rfl, c2, rfl, h3⟩ := hq
  exact K_icmp_eq F (tgt := 1988) dL_law_1887 (by decide) (fun _ => hZ _ _ _ h3) (fun z => absurd rfl z)
theorem lw_46 (F : FrOK G 285 p s m meth c args) (hrm : RmOK Rm 100 0 145) (hX : ScOK G s N xs) (hi : i + 5 < N) (hZ : GO G p e Rm s m args below meth c Z 1988 i) : GO G p e Rm s m args below meth c Z 1892 i := by
  intro I L c0 h
  refine K_aload_n F (k := 1) (x := 0) dL_law_1892 rfl ?_
  refine K_arg F hX (i := i) (k := 1) (by omega) (by decide) rfl rfl dL_law_1893 dL_law_1894 dL_law_1895 dL_law_1896 dL_law_1897 ?_
  refine K_arg F hX (i := i) (k := 2) (by omega) (by decide) rfl rfl dL_law_1898 dL_law_1899 dL_law_1900 dL_law_1901 dL_law_1902 ?_
  refine K_arg F hX (i := i) (k := 3) (by omega) (by decide) rfl rfl dL_law_1903 dL_law_1904 dL_law_1905 dL_law_1906 dL_law_1907 ?_
  refine K_arg F hX (i := i) (k := 4) (by omega) (by decide) rfl rfl dL_law_1908 dL_law_1909 dL_law_1910 dL_law_1911 dL_law_1912 ?_
  refine K_arg F hX (i := i) (k := 5) (by omega) (by decide) rfl rfl dL_law_1913 dL_law_1914 dL_law_1915 dL_law_1916 dL_law_1917 ?_
  refine K_cl (a := 0) (as := [.int (xs (i + 1)), .int (xs (i + 2)), .int (xs (i + 3)), .int (xs (i + 4)), .int (xs (i + 5))]) (rest := []) F hrm rfl dL_law_1918 mr_13_209 (by decide) (Nat.le_of_ble_eq_true rfl) (by decide) rfl (Nat.le_of_ble_eq_true rfl) rfl (by decide) (by decide +kernel) (o_154 _ _ _ _ _ I L c0 h) (fun v I2 L2 R2 hq => ?_)
  obtain ⟨-, x, c1, rfl, rfl, h2⟩ := hq
  refine K_aload_n F (k := 2) (x := 97) dL_law_1921 rfl ?_
  refine K_arg F hX (i := i) (k := 1) (by omega) (by decide) rfl rfl dL_law_1922 dL_law_1923 dL_law_1924 dL_law_1925 dL_law_1926 ?_
  refine K_arg F hX (i := i) (k := 2) (by omega) (by decide) rfl rfl dL_law_1927 dL_law_1928 dL_law_1929 dL_law_1930 dL_law_1931 ?_
  refine K_arg F hX (i := i) (k := 3) (by omega) (by decide) rfl rfl dL_law_1932 dL_law_1933 dL_law_1934 dL_law_1935 dL_law_1936 ?_
  refine K_arg F hX (i := i) (k := 4) (by omega) (by decide) rfl rfl dL_law_1937 dL_law_1938 dL_law_1939 dL_law_1940 dL_law_1941 ?_
  refine K_arg F hX (i := i) (k := 5) (by omega) (by decide) rfl rfl dL_law_1942 dL_law_1943 dL_law_1944 dL_law_1945 dL_law_1946 ?_
  refine K_cl (a := 97) (as := [.int (xs (i + 1)), .int (xs (i + 2)), .int (xs (i + 3)), .int (xs (i + 4)), .int (xs (i + 5))]) (rest := [.int x]) F hrm rfl dL_law_1947 mr_13_212 (by decide) (Nat.le_of_ble_eq_true rfl) (by decide) rfl (Nat.le_of_ble_eq_true rfl) rfl (by decide) (by decide +kernel) (h2) (fun v I3 L3 R3 hq => ?_)
  obtain ⟨-, rfl, c2, rfl, h3⟩ := hq
  exact K_icmp_eq F (tgt := 1988) dL_law_1950 (by decide) (fun _ => hZ _ _ _ h3) (fun z => absurd rfl z)
theorem lw_47 (F : FrOK G 285 p s m meth c args) (hrm : RmOK Rm 100 0 145) (hX : ScOK G s N xs) (hi : i + 5 < N) (hZ : GO G p e Rm s m args below meth c Z 1988 i) : GO G p e Rm s m args below meth c Z 1955 i := by
  intro I L c0 h
  refine K_aload_n F (k := 1) (x := 0) dL_law_1955 rfl ?_
  refine K_arg F hX (i := i) (k := 1) (by omega) (by decide) rfl rfl dL_law_1956 dL_law_1957 dL_law_1958 dL_law_1959 dL_law_1960 ?_
  refine K_arg F hX (i := i) (k := 2) (by omega) (by decide) rfl rfl dL_law_1961 dL_law_1962 dL_law_1963 dL_law_1964 dL_law_1965 ?_
  refine K_cl (a := 0) (as := [.int (xs (i + 1)), .int (xs (i + 2))]) (rest := []) F hrm rfl dL_law_1966 mr_13_213 (by decide) (Nat.le_of_ble_eq_true rfl) (by decide) rfl (Nat.le_of_ble_eq_true rfl) rfl (by decide) (by decide +kernel) (o_155 _ _ I L c0 h) (fun v I2 L2 R2 hq => ?_)
  obtain ⟨-, x, c1, rfl, rfl, h2⟩ := hq
  refine K_aload_n F (k := 2) (x := 97) dL_law_1969 rfl ?_
  refine K_arg F hX (i := i) (k := 1) (by omega) (by decide) rfl rfl dL_law_1970 dL_law_1971 dL_law_1972 dL_law_1973 dL_law_1974 ?_
  refine K_arg F hX (i := i) (k := 2) (by omega) (by decide) rfl rfl dL_law_1975 dL_law_1976 dL_law_1977 dL_law_1978 dL_law_1979 ?_
  refine K_cl (a := 97) (as := [.int (xs (i + 1)), .int (xs (i + 2))]) (rest := [.int x]) F hrm rfl dL_law_1980 mr_13_216 (by decide) (Nat.le_of_ble_eq_true rfl) (by decide) rfl (Nat.le_of_ble_eq_true rfl) rfl (by decide) (by decide +kernel) (h2) (fun v I3 L3 R3 hq => ?_)
  obtain ⟨-, rfl, c2, rfl, h3⟩ := hq
  exact K_icmp_eq F (tgt := 1988) dL_law_1983 (by decide) (fun _ => hZ _ _ _ h3) (fun z => absurd rfl z)
end LWP
