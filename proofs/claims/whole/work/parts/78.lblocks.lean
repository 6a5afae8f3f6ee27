/-! ===== the blocks of the law's loop: by program ===== -/
theorem lb_add {S : am_S} {n j : Nat} {x5 x6 x7 x8 : Value} {hi : am_HI} {g : am_G} (hI : am_Inv g) (hS : S.2.1 ≤ 2048) (hj : j + 3 < S.2.1) (ho : OpI M_L_add M_X10_add [.int (S.2.2 (j + 1))] hi g) (hn : LN S n j) : QP S (n + 1, 6 * (n + 1)) 280 (lL j x5 x6 x7 x8) [] hi g := by
  obtain ⟨code, P, hc, hm⟩ := ho
  refine QP.aload_n (i := 1) d_L_law_280 rfl rfl ?_
  refine QP.rdk (j := j) (k := 1) d_L_law_281 d_L_law_282 d_L_law_284 d_L_law_285 d_L_law_286 rfl (by omega) hS ?_
  refine QP.aload_n (i := 3) d_L_law_287 rfl rfl ?_
  refine QP.calll (As := [.ref 0, .int (S.2.2 (j + 1)), .ref 133]) hI hc kx_add d_L_law_288 rfl (by decide) (fun h g1 hI1 hP => ?_)
  obtain ⟨r, Q, hr, hQ⟩ := hm h g1 hI1 hP
  refine QP.istore (i := 5) d_L_law_291 (by decide) (by decide) rfl ?_
  refine QP.aload_n (i := 2) d_L_law_293 rfl rfl ?_
  refine QP.rdk (j := j) (k := 1) d_L_law_294 d_L_law_295 d_L_law_297 d_L_law_298 d_L_law_299 rfl (by omega) hS ?_
  refine QP.callr (As := [.int (S.2.2 (j + 1))]) (q := (RX10, TX10, 15)) hI1 hr k_L_law_140 d_L_law_300 rfl rfl (by decide) rfl rfl (by decide) (fun h2 q2 => ?_)
  obtain ⟨e1, e2, e3⟩ := hQ h2 q2
  refine QP.istore (i := 6) d_L_law_303 (by decide) (by decide) rfl ?_
  refine QP.aload_n (i := 2) d_L_law_305 rfl rfl ?_
  refine QP.callr (As := []) (q := (RX10, TX10, 15)) hI1 (m_thrown hI1) k_L_law_141 d_L_law_306 rfl rfl (by decide) rfl rfl (by decide) (fun h3 q3 => ?_)
  subst q3
  refine QP.iload (i := 5) d_L_law_309 rfl ?_
  refine QP.icmp_eq (tgt := 316) d_L_law_311 (by decide) (fun _ => ?_) (fun q => absurd e1 q)
  refine QP.iload (i := 5) d_L_law_316 rfl ?_
  refine QP.if_ne (tgt := 333) d_L_law_318 (by decide) (fun _ => QP.goto (tgt := 2751) d_L_law_333 (by decide) (hn _ _ _ _ _ _ hI1 e3)) (fun c0 => ?_)
  refine QP.aload_n (i := 3) d_L_law_321 rfl rfl ?_
  refine QP.iconst (x := 0) d_L_law_322 (by decide) ?_
  refine QP.lald (n := 1) (j := 0) d_L_law_323 rfl (hI1.lt (by decide)) (by decide) rfl (by decide) ?_
  rw [e2 c0]
  refine QP.iload (i := 6) d_L_law_324 rfl ?_
  refine QP.i2l d_L_law_326 ?_
  refine QP.lcmp d_L_law_327 ?_
  exact QP.if_eq (tgt := 333) d_L_law_328 (by decide) (fun _ => QP.goto (tgt := 2751) d_L_law_333 (by decide) (hn _ _ _ _ _ _ hI1 e3)) (fun q => absurd (lg_cmp_rf _) q)
theorem lb_echo {S : am_S} {n j : Nat} {x5 x6 x7 x8 : Value} {hi : am_HI} {g : am_G} (hI : am_Inv g) (hS : S.2.1 ≤ 2048) (hj : j + 3 < S.2.1) (ho : OpI M_L_echo M_X10_echo [.int (S.2.2 (j + 1)), .int (S.2.2 (j + 2)), .int (S.2.2 (j + 3))] hi g) (hn : LN S n j) : QP S (n + 1, 6 * (n + 1)) 336 (lL j x5 x6 x7 x8) [] hi g := by
  obtain ⟨code, P, hc, hm⟩ := ho
  refine QP.aload_n (i := 1) d_L_law_336 rfl rfl ?_
  refine QP.rdk (j := j) (k := 1) d_L_law_337 d_L_law_338 d_L_law_340 d_L_law_341 d_L_law_342 rfl (by omega) hS ?_
  refine QP.rdk (j := j) (k := 2) d_L_law_343 d_L_law_344 d_L_law_346 d_L_law_347 d_L_law_348 rfl (by omega) hS ?_
  refine QP.rdk (j := j) (k := 3) d_L_law_349 d_L_law_350 d_L_law_352 d_L_law_353 d_L_law_354 rfl (by omega) hS ?_
  refine QP.aload_n (i := 3) d_L_law_355 rfl rfl ?_
  refine QP.calll (As := [.ref 0, .int (S.2.2 (j + 1)), .int (S.2.2 (j + 2)), .int (S.2.2 (j + 3)), .ref 133]) hI hc kx_echo d_L_law_356 rfl (by decide) (fun h g1 hI1 hP => ?_)
  obtain ⟨r, Q, hr, hQ⟩ := hm h g1 hI1 hP
  refine QP.istore (i := 5) d_L_law_359 (by decide) (by decide) rfl ?_
  refine QP.aload_n (i := 2) d_L_law_361 rfl rfl ?_
  refine QP.rdk (j := j) (k := 1) d_L_law_362 d_L_law_363 d_L_law_365 d_L_law_366 d_L_law_367 rfl (by omega) hS ?_
  refine QP.rdk (j := j) (k := 2) d_L_law_368 d_L_law_369 d_L_law_371 d_L_law_372 d_L_law_373 rfl (by omega) hS ?_
  refine QP.rdk (j := j) (k := 3) d_L_law_374 d_L_law_375 d_L_law_377 d_L_law_378 d_L_law_379 rfl (by omega) hS ?_
  refine QP.callr (As := [.int (S.2.2 (j + 1)), .int (S.2.2 (j + 2)), .int (S.2.2 (j + 3))]) (q := (RX10, TX10, 15)) hI1 hr k_L_law_147 d_L_law_380 rfl rfl (by decide) rfl rfl (by decide) (fun h2 q2 => ?_)
  obtain ⟨e1, e2, e3⟩ := hQ h2 q2
  refine QP.istore (i := 6) d_L_law_383 (by decide) (by decide) rfl ?_
  refine QP.aload_n (i := 2) d_L_law_385 rfl rfl ?_
  refine QP.callr (As := []) (q := (RX10, TX10, 15)) hI1 (m_thrown hI1) k_L_law_141 d_L_law_386 rfl rfl (by decide) rfl rfl (by decide) (fun h3 q3 => ?_)
  subst q3
  refine QP.iload (i := 5) d_L_law_389 rfl ?_
  refine QP.icmp_eq (tgt := 396) d_L_law_391 (by decide) (fun _ => ?_) (fun q => absurd e1 q)
  refine QP.iload (i := 5) d_L_law_396 rfl ?_
  refine QP.if_ne (tgt := 413) d_L_law_398 (by decide) (fun _ => QP.goto (tgt := 2751) d_L_law_413 (by decide) (hn _ _ _ _ _ _ hI1 e3)) (fun c0 => ?_)
  refine QP.aload_n (i := 3) d_L_law_401 rfl rfl ?_
  refine QP.iconst (x := 0) d_L_law_402 (by decide) ?_
  refine QP.lald (n := 1) (j := 0) d_L_law_403 rfl (hI1.lt (by decide)) (by decide) rfl (by decide) ?_
  rw [e2 c0]
  refine QP.iload (i := 6) d_L_law_404 rfl ?_
  refine QP.i2l d_L_law_406 ?_
  refine QP.lcmp d_L_law_407 ?_
  exact QP.if_eq (tgt := 413) d_L_law_408 (by decide) (fun _ => QP.goto (tgt := 2751) d_L_law_413 (by decide) (hn _ _ _ _ _ _ hI1 e3)) (fun q => absurd (lg_cmp_rf _) q)
theorem lb_change {S : am_S} {n j : Nat} {x5 x6 x7 x8 : Value} {hi : am_HI} {g : am_G} (hI : am_Inv g) (hS : S.2.1 ≤ 2048) (hj : j + 3 < S.2.1) (ho : OpI M_L_change M_X10_change [.int (S.2.2 (j + 1)), .int (S.2.2 (j + 2))] hi g) (hn : LN S n j) : QP S (n + 1, 6 * (n + 1)) 416 (lL j x5 x6 x7 x8) [] hi g := by
  obtain ⟨code, P, hc, hm⟩ := ho
  refine QP.aload_n (i := 1) d_L_law_416 rfl rfl ?_
  refine QP.rdk (j := j) (k := 1) d_L_law_417 d_L_law_418 d_L_law_420 d_L_law_421 d_L_law_422 rfl (by omega) hS ?_
  refine QP.rdk (j := j) (k := 2) d_L_law_423 d_L_law_424 d_L_law_426 d_L_law_427 d_L_law_428 rfl (by omega) hS ?_
  refine QP.aload_n (i := 3) d_L_law_429 rfl rfl ?_
  refine QP.calll (As := [.ref 0, .int (S.2.2 (j + 1)), .int (S.2.2 (j + 2)), .ref 133]) hI hc kx_change d_L_law_430 rfl (by decide) (fun h g1 hI1 hP => ?_)
  obtain ⟨r, Q, hr, hQ⟩ := hm h g1 hI1 hP
  refine QP.istore (i := 5) d_L_law_433 (by decide) (by decide) rfl ?_
  refine QP.aload_n (i := 2) d_L_law_435 rfl rfl ?_
  refine QP.rdk (j := j) (k := 1) d_L_law_436 d_L_law_437 d_L_law_439 d_L_law_440 d_L_law_441 rfl (by omega) hS ?_
  refine QP.rdk (j := j) (k := 2) d_L_law_442 d_L_law_443 d_L_law_445 d_L_law_446 d_L_law_447 rfl (by omega) hS ?_
  refine QP.callr (As := [.int (S.2.2 (j + 1)), .int (S.2.2 (j + 2))]) (q := (RX10, TX10, 15)) hI1 hr k_L_law_151 d_L_law_448 rfl rfl (by decide) rfl rfl (by decide) (fun h2 q2 => ?_)
  obtain ⟨e1, e2, e3⟩ := hQ h2 q2
  refine QP.istore (i := 6) d_L_law_451 (by decide) (by decide) rfl ?_
  refine QP.aload_n (i := 2) d_L_law_453 rfl rfl ?_
  refine QP.callr (As := []) (q := (RX10, TX10, 15)) hI1 (m_thrown hI1) k_L_law_141 d_L_law_454 rfl rfl (by decide) rfl rfl (by decide) (fun h3 q3 => ?_)
  subst q3
  refine QP.iload (i := 5) d_L_law_457 rfl ?_
  refine QP.icmp_eq (tgt := 464) d_L_law_459 (by decide) (fun _ => ?_) (fun q => absurd e1 q)
  refine QP.iload (i := 5) d_L_law_464 rfl ?_
  refine QP.if_ne (tgt := 481) d_L_law_466 (by decide) (fun _ => QP.goto (tgt := 2751) d_L_law_481 (by decide) (hn _ _ _ _ _ _ hI1 e3)) (fun c0 => ?_)
  refine QP.aload_n (i := 3) d_L_law_469 rfl rfl ?_
  refine QP.iconst (x := 0) d_L_law_470 (by decide) ?_
  refine QP.lald (n := 1) (j := 0) d_L_law_471 rfl (hI1.lt (by decide)) (by decide) rfl (by decide) ?_
  rw [e2 c0]
  refine QP.iload (i := 6) d_L_law_472 rfl ?_
  refine QP.i2l d_L_law_474 ?_
  refine QP.lcmp d_L_law_475 ?_
  exact QP.if_eq (tgt := 481) d_L_law_476 (by decide) (fun _ => QP.goto (tgt := 2751) d_L_law_481 (by decide) (hn _ _ _ _ _ _ hI1 e3)) (fun q => absurd (lg_cmp_rf _) q)
theorem lb_drop {S : am_S} {n j : Nat} {x5 x6 x7 x8 : Value} {hi : am_HI} {g : am_G} (hI : am_Inv g) (hS : S.2.1 ≤ 2048) (hj : j + 3 < S.2.1) (ho : OpI M_L_drop M_X10_drop [] hi g) (hn : LN S n j) : QP S (n + 1, 6 * (n + 1)) 484 (lL j x5 x6 x7 x8) [] hi g := by
  obtain ⟨code, P, hc, hm⟩ := ho
  refine QP.aload_n (i := 1) d_L_law_484 rfl rfl ?_
  refine QP.aload_n (i := 3) d_L_law_485 rfl rfl ?_
  refine QP.calll (As := [.ref 0, .ref 133]) hI hc kx_drop d_L_law_486 rfl (by decide) (fun h g1 hI1 hP => ?_)
  obtain ⟨r, Q, hr, hQ⟩ := hm h g1 hI1 hP
  refine QP.istore (i := 5) d_L_law_489 (by decide) (by decide) rfl ?_
  refine QP.aload_n (i := 2) d_L_law_491 rfl rfl ?_
  refine QP.callr (As := []) (q := (RX10, TX10, 15)) hI1 hr k_L_law_155 d_L_law_492 rfl rfl (by decide) rfl rfl (by decide) (fun h2 q2 => ?_)
  obtain ⟨e1, e2, e3⟩ := hQ h2 q2
  refine QP.istore (i := 6) d_L_law_495 (by decide) (by decide) rfl ?_
  refine QP.aload_n (i := 2) d_L_law_497 rfl rfl ?_
  refine QP.callr (As := []) (q := (RX10, TX10, 15)) hI1 (m_thrown hI1) k_L_law_141 d_L_law_498 rfl rfl (by decide) rfl rfl (by decide) (fun h3 q3 => ?_)
  subst q3
  refine QP.iload (i := 5) d_L_law_501 rfl ?_
  refine QP.icmp_eq (tgt := 508) d_L_law_503 (by decide) (fun _ => ?_) (fun q => absurd e1 q)
  refine QP.iload (i := 5) d_L_law_508 rfl ?_
  refine QP.if_ne (tgt := 525) d_L_law_510 (by decide) (fun _ => QP.goto (tgt := 2751) d_L_law_525 (by decide) (hn _ _ _ _ _ _ hI1 e3)) (fun c0 => ?_)
  refine QP.aload_n (i := 3) d_L_law_513 rfl rfl ?_
  refine QP.iconst (x := 0) d_L_law_514 (by decide) ?_
  refine QP.lald (n := 1) (j := 0) d_L_law_515 rfl (hI1.lt (by decide)) (by decide) rfl (by decide) ?_
  rw [e2 c0]
  refine QP.iload (i := 6) d_L_law_516 rfl ?_
  refine QP.i2l d_L_law_518 ?_
  refine QP.lcmp d_L_law_519 ?_
  exact QP.if_eq (tgt := 525) d_L_law_520 (by decide) (fun _ => QP.goto (tgt := 2751) d_L_law_525 (by decide) (hn _ _ _ _ _ _ hI1 e3)) (fun q => absurd (lg_cmp_rf _) q)
theorem lb_empty {S : am_S} {n j : Nat} {x5 x6 x7 x8 : Value} {hi : am_HI} {g : am_G} {r : Int32} (hI : am_Inv g) (ho : OpV M_X9_empty M_X10_empty (.int r) hi g) (hn : LN S n j) : QP S (n + 1, 6 * (n + 1)) 528 (lL j x5 x6 x7 x8) [] hi g := by
  refine QP.less (b' := (n, 6 * n)) ?_ ⟨by show n ≤ n + 1; omega, by show 6 * n ≤ 6 * (n + 1); omega⟩
  obtain ⟨P, hc, hm⟩ := ho
  refine QP.aload_n (i := 1) d_L_law_528 rfl rfl ?_
  refine QP.callg (As := []) (q := (RX9, TX9, 7)) hI hc k_L_law_156 d_L_law_529 rfl rfl (by decide) rfl rfl (by decide) (fun h g1 hI1 hP => ?_)
  obtain ⟨Q, hr, hQ⟩ := hm h g1 hI1 hP
  refine QP.aload_n (i := 2) d_L_law_532 rfl rfl ?_
  refine QP.callr (As := []) (q := (RX10, TX10, 15)) hI1 hr k_L_law_159 d_L_law_533 rfl rfl (by decide) rfl rfl (Nat.le_of_ble_eq_true rfl) (fun h2 q2 => ?_)
  exact QP.icmp_eq (tgt := 2751) d_L_law_536 (by decide) (fun _ => hn _ _ _ _ _ _ hI1 (hQ h2 q2)) (fun q => absurd rfl q)
theorem lb_setDelay {S : am_S} {n j : Nat} {x5 x6 x7 x8 : Value} {hi : am_HI} {g : am_G} (hI : am_Inv g) (hS : S.2.1 ≤ 2048) (hj : j + 3 < S.2.1) (ho : OpI M_L_setDelay M_X10_setDelay [.int (S.2.2 (j + 1))] hi g) (hn : LN S n j) : QP S (n + 1, 6 * (n + 1)) 541 (lL j x5 x6 x7 x8) [] hi g := by
  obtain ⟨code, P, hc, hm⟩ := ho
  refine QP.aload_n (i := 1) d_L_law_541 rfl rfl ?_
  refine QP.rdk (j := j) (k := 1) d_L_law_542 d_L_law_543 d_L_law_545 d_L_law_546 d_L_law_547 rfl (by omega) hS ?_
  refine QP.aload_n (i := 3) d_L_law_548 rfl rfl ?_
  refine QP.calll (As := [.ref 0, .int (S.2.2 (j + 1)), .ref 133]) hI hc kx_setDelay d_L_law_549 rfl (by decide) (fun h g1 hI1 hP => ?_)
  obtain ⟨r, Q, hr, hQ⟩ := hm h g1 hI1 hP
  refine QP.istore (i := 5) d_L_law_552 (by decide) (by decide) rfl ?_
  refine QP.aload_n (i := 2) d_L_law_554 rfl rfl ?_
  refine QP.rdk (j := j) (k := 1) d_L_law_555 d_L_law_556 d_L_law_558 d_L_law_559 d_L_law_560 rfl (by omega) hS ?_
  refine QP.callr (As := [.int (S.2.2 (j + 1))]) (q := (RX10, TX10, 15)) hI1 hr k_L_law_162 d_L_law_561 rfl rfl (by decide) rfl rfl (by decide) (fun h2 q2 => ?_)
  obtain ⟨e1, e2, e3⟩ := hQ h2 q2
  refine QP.istore (i := 6) d_L_law_564 (by decide) (by decide) rfl ?_
  refine QP.aload_n (i := 2) d_L_law_566 rfl rfl ?_
  refine QP.callr (As := []) (q := (RX10, TX10, 15)) hI1 (m_thrown hI1) k_L_law_141 d_L_law_567 rfl rfl (by decide) rfl rfl (by decide) (fun h3 q3 => ?_)
  subst q3
  refine QP.iload (i := 5) d_L_law_570 rfl ?_
  refine QP.icmp_eq (tgt := 577) d_L_law_572 (by decide) (fun _ => ?_) (fun q => absurd e1 q)
  refine QP.iload (i := 5) d_L_law_577 rfl ?_
  refine QP.if_ne (tgt := 594) d_L_law_579 (by decide) (fun _ => QP.goto (tgt := 2751) d_L_law_594 (by decide) (hn _ _ _ _ _ _ hI1 e3)) (fun c0 => ?_)
  refine QP.aload_n (i := 3) d_L_law_582 rfl rfl ?_
  refine QP.iconst (x := 0) d_L_law_583 (by decide) ?_
  refine QP.lald (n := 1) (j := 0) d_L_law_584 rfl (hI1.lt (by decide)) (by decide) rfl (by decide) ?_
  rw [e2 c0]
  refine QP.iload (i := 6) d_L_law_585 rfl ?_
  refine QP.i2l d_L_law_587 ?_
  refine QP.lcmp d_L_law_588 ?_
  exact QP.if_eq (tgt := 594) d_L_law_589 (by decide) (fun _ => QP.goto (tgt := 2751) d_L_law_594 (by decide) (hn _ _ _ _ _ _ hI1 e3)) (fun q => absurd (lg_cmp_rf _) q)
theorem lb_setSpeed {S : am_S} {n j : Nat} {x5 x6 x7 x8 : Value} {hi : am_HI} {g : am_G} (hI : am_Inv g) (hS : S.2.1 ≤ 2048) (hj : j + 3 < S.2.1) (ho : OpI M_L_setSpeed M_X10_setSpeed [.int (S.2.2 (j + 1))] hi g) (hn : LN S n j) : QP S (n + 1, 6 * (n + 1)) 597 (lL j x5 x6 x7 x8) [] hi g := by
  obtain ⟨code, P, hc, hm⟩ := ho
  refine QP.aload_n (i := 1) d_L_law_597 rfl rfl ?_
  refine QP.rdk (j := j) (k := 1) d_L_law_598 d_L_law_599 d_L_law_601 d_L_law_602 d_L_law_603 rfl (by omega) hS ?_
  refine QP.aload_n (i := 3) d_L_law_604 rfl rfl ?_
  refine QP.calll (As := [.ref 0, .int (S.2.2 (j + 1)), .ref 133]) hI hc kx_setSpeed d_L_law_605 rfl (by decide) (fun h g1 hI1 hP => ?_)
  obtain ⟨r, Q, hr, hQ⟩ := hm h g1 hI1 hP
  refine QP.istore (i := 5) d_L_law_608 (by decide) (by decide) rfl ?_
  refine QP.aload_n (i := 2) d_L_law_610 rfl rfl ?_
  refine QP.rdk (j := j) (k := 1) d_L_law_611 d_L_law_612 d_L_law_614 d_L_law_615 d_L_law_616 rfl (by omega) hS ?_
  refine QP.callr (As := [.int (S.2.2 (j + 1))]) (q := (RX10, TX10, 15)) hI1 hr k_L_law_165 d_L_law_617 rfl rfl (by decide) rfl rfl (by decide) (fun h2 q2 => ?_)
  obtain ⟨e1, e2, e3⟩ := hQ h2 q2
  refine QP.istore (i := 6) d_L_law_620 (by decide) (by decide) rfl ?_
  refine QP.aload_n (i := 2) d_L_law_622 rfl rfl ?_
  refine QP.callr (As := []) (q := (RX10, TX10, 15)) hI1 (m_thrown hI1) k_L_law_141 d_L_law_623 rfl rfl (by decide) rfl rfl (by decide) (fun h3 q3 => ?_)
  subst q3
  refine QP.iload (i := 5) d_L_law_626 rfl ?_
  refine QP.icmp_eq (tgt := 633) d_L_law_628 (by decide) (fun _ => ?_) (fun q => absurd e1 q)
  refine QP.iload (i := 5) d_L_law_633 rfl ?_
  refine QP.if_ne (tgt := 650) d_L_law_635 (by decide) (fun _ => QP.goto (tgt := 2751) d_L_law_650 (by decide) (hn _ _ _ _ _ _ hI1 e3)) (fun c0 => ?_)
  refine QP.aload_n (i := 3) d_L_law_638 rfl rfl ?_
  refine QP.iconst (x := 0) d_L_law_639 (by decide) ?_
  refine QP.lald (n := 1) (j := 0) d_L_law_640 rfl (hI1.lt (by decide)) (by decide) rfl (by decide) ?_
  rw [e2 c0]
  refine QP.iload (i := 6) d_L_law_641 rfl ?_
  refine QP.i2l d_L_law_643 ?_
  refine QP.lcmp d_L_law_644 ?_
  exact QP.if_eq (tgt := 650) d_L_law_645 (by decide) (fun _ => QP.goto (tgt := 2751) d_L_law_650 (by decide) (hn _ _ _ _ _ _ hI1 e3)) (fun q => absurd (lg_cmp_rf _) q)
theorem lb_setWeight {S : am_S} {n j : Nat} {x5 x6 x7 x8 : Value} {hi : am_HI} {g : am_G} (hI : am_Inv g) (hS : S.2.1 ≤ 2048) (hj : j + 3 < S.2.1) (ho : OpI M_L_setWeight M_X10_setWeight [.int (S.2.2 (j + 1)), .int (S.2.2 (j + 2))] hi g) (hn : LN S n j) : QP S (n + 1, 6 * (n + 1)) 653 (lL j x5 x6 x7 x8) [] hi g := by
  obtain ⟨code, P, hc, hm⟩ := ho
  refine QP.aload_n (i := 1) d_L_law_653 rfl rfl ?_
  refine QP.rdk (j := j) (k := 1) d_L_law_654 d_L_law_655 d_L_law_657 d_L_law_658 d_L_law_659 rfl (by omega) hS ?_
  refine QP.rdk (j := j) (k := 2) d_L_law_660 d_L_law_661 d_L_law_663 d_L_law_664 d_L_law_665 rfl (by omega) hS ?_
  refine QP.aload_n (i := 3) d_L_law_666 rfl rfl ?_
  refine QP.calll (As := [.ref 0, .int (S.2.2 (j + 1)), .int (S.2.2 (j + 2)), .ref 133]) hI hc kx_setWeight d_L_law_667 rfl (by decide) (fun h g1 hI1 hP => ?_)
  obtain ⟨r, Q, hr, hQ⟩ := hm h g1 hI1 hP
  refine QP.istore (i := 5) d_L_law_670 (by decide) (by decide) rfl ?_
  refine QP.aload_n (i := 2) d_L_law_672 rfl rfl ?_
  refine QP.rdk (j := j) (k := 1) d_L_law_673 d_L_law_674 d_L_law_676 d_L_law_677 d_L_law_678 rfl (by omega) hS ?_
  refine QP.rdk (j := j) (k := 2) d_L_law_679 d_L_law_680 d_L_law_682 d_L_law_683 d_L_law_684 rfl (by omega) hS ?_
  refine QP.callr (As := [.int (S.2.2 (j + 1)), .int (S.2.2 (j + 2))]) (q := (RX10, TX10, 15)) hI1 hr k_L_law_168 d_L_law_685 rfl rfl (by decide) rfl rfl (by decide) (fun h2 q2 => ?_)
  obtain ⟨e1, e2, e3⟩ := hQ h2 q2
  refine QP.istore (i := 6) d_L_law_688 (by decide) (by decide) rfl ?_
  refine QP.aload_n (i := 2) d_L_law_690 rfl rfl ?_
  refine QP.callr (As := []) (q := (RX10, TX10, 15)) hI1 (m_thrown hI1) k_L_law_141 d_L_law_691 rfl rfl (by decide) rfl rfl (by decide) (fun h3 q3 => ?_)
  subst q3
  refine QP.iload (i := 5) d_L_law_694 rfl ?_
  refine QP.icmp_eq (tgt := 701) d_L_law_696 (by decide) (fun _ => ?_) (fun q => absurd e1 q)
  refine QP.iload (i := 5) d_L_law_701 rfl ?_
  refine QP.if_ne (tgt := 718) d_L_law_703 (by decide) (fun _ => QP.goto (tgt := 2751) d_L_law_718 (by decide) (hn _ _ _ _ _ _ hI1 e3)) (fun c0 => ?_)
  refine QP.aload_n (i := 3) d_L_law_706 rfl rfl ?_
  refine QP.iconst (x := 0) d_L_law_707 (by decide) ?_
  refine QP.lald (n := 1) (j := 0) d_L_law_708 rfl (hI1.lt (by decide)) (by decide) rfl (by decide) ?_
  rw [e2 c0]
  refine QP.iload (i := 6) d_L_law_709 rfl ?_
  refine QP.i2l d_L_law_711 ?_
  refine QP.lcmp d_L_law_712 ?_
  exact QP.if_eq (tgt := 718) d_L_law_713 (by decide) (fun _ => QP.goto (tgt := 2751) d_L_law_718 (by decide) (hn _ _ _ _ _ _ hI1 e3)) (fun q => absurd (lg_cmp_rf _) q)
theorem lb_turnKind {S : am_S} {n j : Nat} {x5 x6 x7 x8 : Value} {hi : am_HI} {g : am_G} (hI : am_Inv g) (hS : S.2.1 ≤ 2048) (hj : j + 3 < S.2.1) (ho : OpB M_L_turnKind M_X10_turnKind [.int (S.2.2 (j + 1))] hi g) (hn : LN S n j) : QP S (n + 1, 6 * (n + 1)) 721 (lL j x5 x6 x7 x8) [] hi g := by
  obtain ⟨code, P, hc, hm⟩ := ho
  refine QP.aload_n (i := 1) d_L_law_721 rfl rfl ?_
  refine QP.rdk (j := j) (k := 1) d_L_law_722 d_L_law_723 d_L_law_725 d_L_law_726 d_L_law_727 rfl (by omega) hS ?_
  refine QP.aload_n (i := 3) d_L_law_728 rfl rfl ?_
  refine QP.calll (As := [.ref 0, .int (S.2.2 (j + 1)), .ref 133]) hI hc kx_turnKind d_L_law_729 rfl (by decide) (fun h g1 hI1 hP => ?_)
  obtain ⟨r, Q, hr, hQ⟩ := hm h g1 hI1 hP
  refine QP.istore (i := 5) d_L_law_732 (by decide) (by decide) rfl ?_
  refine QP.aload_n (i := 2) d_L_law_734 rfl rfl ?_
  refine QP.rdk (j := j) (k := 1) d_L_law_735 d_L_law_736 d_L_law_738 d_L_law_739 d_L_law_740 rfl (by omega) hS ?_
  refine QP.callr (As := [.int (S.2.2 (j + 1))]) (q := (RX10, TX10, 15)) hI1 hr k_L_law_171 d_L_law_741 rfl rfl (by decide) rfl rfl (by decide) (fun h2 q2 => ?_)
  obtain ⟨e1, e2, e3⟩ := hQ h2 q2
  refine QP.istore (i := 6) d_L_law_744 (by decide) (by decide) rfl ?_
  refine QP.aload_n (i := 2) d_L_law_746 rfl rfl ?_
  refine QP.callr (As := []) (q := (RX10, TX10, 15)) hI1 (m_thrown hI1) k_L_law_141 d_L_law_747 rfl rfl (by decide) rfl rfl (by decide) (fun h3 q3 => ?_)
  subst q3
  refine QP.iload (i := 5) d_L_law_750 rfl ?_
  refine QP.icmp_eq (tgt := 757) d_L_law_752 (by decide) (fun _ => ?_) (fun q => absurd e1 q)
  refine QP.iload (i := 5) d_L_law_757 rfl ?_
  refine QP.if_ne (tgt := 781) d_L_law_759 (by decide) (fun _ => QP.goto (tgt := 2751) d_L_law_781 (by decide) (hn _ _ _ _ _ _ hI1 e3)) (fun c0 => ?_)
  refine QP.aload_n (i := 3) d_L_law_762 rfl rfl ?_
  refine QP.iconst (x := 0) d_L_law_763 (by decide) ?_
  refine QP.lald (n := 1) (j := 0) d_L_law_764 rfl (hI1.lt (by decide)) (by decide) rfl (by decide) ?_
  rw [e2 c0]
  refine QP.iload (i := 6) d_L_law_765 rfl ?_
  cases r
  · refine QP.if_eq (tgt := 774) d_L_law_767 (by decide) (fun _ => ?_) (fun q => absurd rfl q)
    refine QP.lconst (x := 0) d_L_law_774 (by decide) ?_
    refine QP.lcmp d_L_law_775 ?_
    exact QP.if_eq (tgt := 781) d_L_law_776 (by decide) (fun _ => QP.goto (tgt := 2751) d_L_law_781 (by decide) (hn _ _ _ _ _ _ hI1 e3)) (fun q => absurd (lg_cmp_rf _) q)
  · refine QP.if_eq (tgt := 774) d_L_law_767 (by decide) (fun q => absurd q (by decide)) (fun _ => ?_)
    refine QP.lconst (x := 1) d_L_law_770 (by decide) ?_
    refine QP.goto (tgt := 775) d_L_law_771 (by decide) ?_
    refine QP.lcmp d_L_law_775 ?_
    exact QP.if_eq (tgt := 781) d_L_law_776 (by decide) (fun _ => QP.goto (tgt := 2751) d_L_law_781 (by decide) (hn _ _ _ _ _ _ hI1 e3)) (fun q => absurd (lg_cmp_rf _) q)
theorem lb_send {S : am_S} {n j : Nat} {x5 x6 x7 x8 : Value} {hi : am_HI} {g : am_G} (hI : am_Inv g) (hS : S.2.1 ≤ 2048) (hj : j + 3 < S.2.1) (ho : OpI M_L_send M_X10_send [] hi g) (hn : LN S n j) : QP S (n + 1, 6 * (n + 1)) 784 (lL j x5 x6 x7 x8) [] hi g := by
  obtain ⟨code, P, hc, hm⟩ := ho
  refine QP.aload_n (i := 1) d_L_law_784 rfl rfl ?_
  refine QP.aload_n (i := 3) d_L_law_785 rfl rfl ?_
  refine QP.calll (As := [.ref 0, .ref 133]) hI hc kx_send d_L_law_786 rfl (by decide) (fun h g1 hI1 hP => ?_)
  obtain ⟨r, Q, hr, hQ⟩ := hm h g1 hI1 hP
  refine QP.istore (i := 5) d_L_law_789 (by decide) (by decide) rfl ?_
  refine QP.aload_n (i := 2) d_L_law_791 rfl rfl ?_
  refine QP.callr (As := []) (q := (RX10, TX10, 15)) hI1 hr k_L_law_174 d_L_law_792 rfl rfl (by decide) rfl rfl (by decide) (fun h2 q2 => ?_)
  obtain ⟨e1, e2, e3⟩ := hQ h2 q2
  refine QP.istore (i := 6) d_L_law_795 (by decide) (by decide) rfl ?_
  refine QP.aload_n (i := 2) d_L_law_797 rfl rfl ?_
  refine QP.callr (As := []) (q := (RX10, TX10, 15)) hI1 (m_thrown hI1) k_L_law_141 d_L_law_798 rfl rfl (by decide) rfl rfl (by decide) (fun h3 q3 => ?_)
  subst q3
  refine QP.iload (i := 5) d_L_law_801 rfl ?_
  refine QP.icmp_eq (tgt := 808) d_L_law_803 (by decide) (fun _ => ?_) (fun q => absurd e1 q)
  refine QP.iload (i := 5) d_L_law_808 rfl ?_
  refine QP.if_ne (tgt := 825) d_L_law_810 (by decide) (fun _ => QP.goto (tgt := 2751) d_L_law_825 (by decide) (hn _ _ _ _ _ _ hI1 e3)) (fun c0 => ?_)
  refine QP.aload_n (i := 3) d_L_law_813 rfl rfl ?_
  refine QP.iconst (x := 0) d_L_law_814 (by decide) ?_
  refine QP.lald (n := 1) (j := 0) d_L_law_815 rfl (hI1.lt (by decide)) (by decide) rfl (by decide) ?_
  rw [e2 c0]
  refine QP.iload (i := 6) d_L_law_816 rfl ?_
  refine QP.i2l d_L_law_818 ?_
  refine QP.lcmp d_L_law_819 ?_
  exact QP.if_eq (tgt := 825) d_L_law_820 (by decide) (fun _ => QP.goto (tgt := 2751) d_L_law_825 (by decide) (hn _ _ _ _ _ _ hI1 e3)) (fun q => absurd (lg_cmp_rf _) q)
theorem lb_tamper {S : am_S} {n j : Nat} {x5 x6 x7 x8 : Value} {hi : am_HI} {g : am_G} (hI : am_Inv g) (hS : S.2.1 ≤ 2048) (hj : j + 3 < S.2.1) (ho : OpI M_L_tamper M_X10_tamper [.int (S.2.2 (j + 1)), .int (S.2.2 (j + 2))] hi g) (hn : LN S n j) : QP S (n + 1, 6 * (n + 1)) 828 (lL j x5 x6 x7 x8) [] hi g := by
  obtain ⟨code, P, hc, hm⟩ := ho
  refine QP.aload_n (i := 1) d_L_law_828 rfl rfl ?_
  refine QP.rdk (j := j) (k := 1) d_L_law_829 d_L_law_830 d_L_law_832 d_L_law_833 d_L_law_834 rfl (by omega) hS ?_
  refine QP.rdk (j := j) (k := 2) d_L_law_835 d_L_law_836 d_L_law_838 d_L_law_839 d_L_law_840 rfl (by omega) hS ?_
  refine QP.aload_n (i := 3) d_L_law_841 rfl rfl ?_
  refine QP.calll (As := [.ref 0, .int (S.2.2 (j + 1)), .int (S.2.2 (j + 2)), .ref 133]) hI hc kx_tamper d_L_law_842 rfl (by decide) (fun h g1 hI1 hP => ?_)
  obtain ⟨r, Q, hr, hQ⟩ := hm h g1 hI1 hP
  refine QP.istore (i := 5) d_L_law_845 (by decide) (by decide) rfl ?_
  refine QP.aload_n (i := 2) d_L_law_847 rfl rfl ?_
  refine QP.rdk (j := j) (k := 1) d_L_law_848 d_L_law_849 d_L_law_851 d_L_law_852 d_L_law_853 rfl (by omega) hS ?_
  refine QP.rdk (j := j) (k := 2) d_L_law_854 d_L_law_855 d_L_law_857 d_L_law_858 d_L_law_859 rfl (by omega) hS ?_
  refine QP.callr (As := [.int (S.2.2 (j + 1)), .int (S.2.2 (j + 2))]) (q := (RX10, TX10, 15)) hI1 hr k_L_law_177 d_L_law_860 rfl rfl (by decide) rfl rfl (by decide) (fun h2 q2 => ?_)
  obtain ⟨e1, e2, e3⟩ := hQ h2 q2
  refine QP.istore (i := 6) d_L_law_863 (by decide) (by decide) rfl ?_
  refine QP.aload_n (i := 2) d_L_law_865 rfl rfl ?_
  refine QP.callr (As := []) (q := (RX10, TX10, 15)) hI1 (m_thrown hI1) k_L_law_141 d_L_law_866 rfl rfl (by decide) rfl rfl (by decide) (fun h3 q3 => ?_)
  subst q3
  refine QP.iload (i := 5) d_L_law_869 rfl ?_
  refine QP.icmp_eq (tgt := 876) d_L_law_871 (by decide) (fun _ => ?_) (fun q => absurd e1 q)
  refine QP.iload (i := 5) d_L_law_876 rfl ?_
  refine QP.if_ne (tgt := 893) d_L_law_878 (by decide) (fun _ => QP.goto (tgt := 2751) d_L_law_893 (by decide) (hn _ _ _ _ _ _ hI1 e3)) (fun c0 => ?_)
  refine QP.aload_n (i := 3) d_L_law_881 rfl rfl ?_
  refine QP.iconst (x := 0) d_L_law_882 (by decide) ?_
  refine QP.lald (n := 1) (j := 0) d_L_law_883 rfl (hI1.lt (by decide)) (by decide) rfl (by decide) ?_
  rw [e2 c0]
  refine QP.iload (i := 6) d_L_law_884 rfl ?_
  refine QP.i2l d_L_law_886 ?_
  refine QP.lcmp d_L_law_887 ?_
  exact QP.if_eq (tgt := 893) d_L_law_888 (by decide) (fun _ => QP.goto (tgt := 2751) d_L_law_893 (by decide) (hn _ _ _ _ _ _ hI1 e3)) (fun q => absurd (lg_cmp_rf _) q)
theorem lb_samples {S : am_S} {n j : Nat} {x5 x6 x7 x8 : Value} {hi : am_HI} {g : am_G} {r : Int32} (hI : am_Inv g) (ho : OpV M_X9_samples M_X10_samples (.int r) hi g) (hn : LN S n j) : QP S (n + 1, 6 * (n + 1)) 896 (lL j x5 x6 x7 x8) [] hi g := by
  refine QP.less (b' := (n, 6 * n)) ?_ ⟨by show n ≤ n + 1; omega, by show 6 * n ≤ 6 * (n + 1); omega⟩
  obtain ⟨P, hc, hm⟩ := ho
  refine QP.aload_n (i := 1) d_L_law_896 rfl rfl ?_
  refine QP.callg (As := []) (q := (RX9, TX9, 7)) hI hc k_L_law_178 d_L_law_897 rfl rfl (by decide) rfl rfl (by decide) (fun h g1 hI1 hP => ?_)
  obtain ⟨Q, hr, hQ⟩ := hm h g1 hI1 hP
  refine QP.aload_n (i := 2) d_L_law_900 rfl rfl ?_
  refine QP.callr (As := []) (q := (RX10, TX10, 15)) hI1 hr k_L_law_181 d_L_law_901 rfl rfl (by decide) rfl rfl (Nat.le_of_ble_eq_true rfl) (fun h2 q2 => ?_)
  exact QP.icmp_eq (tgt := 2751) d_L_law_904 (by decide) (fun _ => hn _ _ _ _ _ _ hI1 (hQ h2 q2)) (fun q => absurd rfl q)
theorem lb_sampleAt {S : am_S} {n j : Nat} {x5 x6 x7 x8 : Value} {hi : am_HI} {g : am_G} (hI : am_Inv g) (hS : S.2.1 ≤ 2048) (hj : j + 3 < S.2.1) (ho : OpI M_L_sampleAt M_X10_sampleAt [.int (S.2.2 (j + 1))] hi g) (hn : LN S n j) : QP S (n + 1, 6 * (n + 1)) 909 (lL j x5 x6 x7 x8) [] hi g := by
  obtain ⟨code, P, hc, hm⟩ := ho
  refine QP.aload_n (i := 1) d_L_law_909 rfl rfl ?_
  refine QP.rdk (j := j) (k := 1) d_L_law_910 d_L_law_911 d_L_law_913 d_L_law_914 d_L_law_915 rfl (by omega) hS ?_
  refine QP.aload_n (i := 3) d_L_law_916 rfl rfl ?_
  refine QP.calll (As := [.ref 0, .int (S.2.2 (j + 1)), .ref 133]) hI hc kx_sampleAt d_L_law_917 rfl (by decide) (fun h g1 hI1 hP => ?_)
  obtain ⟨r, Q, hr, hQ⟩ := hm h g1 hI1 hP
  refine QP.istore (i := 5) d_L_law_920 (by decide) (by decide) rfl ?_
  refine QP.aload_n (i := 2) d_L_law_922 rfl rfl ?_
  refine QP.rdk (j := j) (k := 1) d_L_law_923 d_L_law_924 d_L_law_926 d_L_law_927 d_L_law_928 rfl (by omega) hS ?_
  refine QP.callr (As := [.int (S.2.2 (j + 1))]) (q := (RX10, TX10, 15)) hI1 hr k_L_law_184 d_L_law_929 rfl rfl (by decide) rfl rfl (by decide) (fun h2 q2 => ?_)
  obtain ⟨e1, e2, e3⟩ := hQ h2 q2
  refine QP.istore (i := 6) d_L_law_932 (by decide) (by decide) rfl ?_
  refine QP.aload_n (i := 2) d_L_law_934 rfl rfl ?_
  refine QP.callr (As := []) (q := (RX10, TX10, 15)) hI1 (m_thrown hI1) k_L_law_141 d_L_law_935 rfl rfl (by decide) rfl rfl (by decide) (fun h3 q3 => ?_)
  subst q3
  refine QP.iload (i := 5) d_L_law_938 rfl ?_
  refine QP.icmp_eq (tgt := 945) d_L_law_940 (by decide) (fun _ => ?_) (fun q => absurd e1 q)
  refine QP.iload (i := 5) d_L_law_945 rfl ?_
  refine QP.if_ne (tgt := 962) d_L_law_947 (by decide) (fun _ => QP.goto (tgt := 2751) d_L_law_962 (by decide) (hn _ _ _ _ _ _ hI1 e3)) (fun c0 => ?_)
  refine QP.aload_n (i := 3) d_L_law_950 rfl rfl ?_
  refine QP.iconst (x := 0) d_L_law_951 (by decide) ?_
  refine QP.lald (n := 1) (j := 0) d_L_law_952 rfl (hI1.lt (by decide)) (by decide) rfl (by decide) ?_
  rw [e2 c0]
  refine QP.iload (i := 6) d_L_law_953 rfl ?_
  refine QP.i2l d_L_law_955 ?_
  refine QP.lcmp d_L_law_956 ?_
  exact QP.if_eq (tgt := 962) d_L_law_957 (by decide) (fun _ => QP.goto (tgt := 2751) d_L_law_962 (by decide) (hn _ _ _ _ _ _ hI1 e3)) (fun q => absurd (lg_cmp_rf _) q)
theorem lb_blocks {S : am_S} {n j : Nat} {x5 x6 x7 x8 : Value} {hi : am_HI} {g : am_G} {r : Int32} (hI : am_Inv g) (ho : OpV M_X9_blocks M_X10_blocks (.int r) hi g) (hn : LN S n j) : QP S (n + 1, 6 * (n + 1)) 965 (lL j x5 x6 x7 x8) [] hi g := by
  refine QP.less (b' := (n, 6 * n)) ?_ ⟨by show n ≤ n + 1; omega, by show 6 * n ≤ 6 * (n + 1); omega⟩
  obtain ⟨P, hc, hm⟩ := ho
  refine QP.aload_n (i := 1) d_L_law_965 rfl rfl ?_
  refine QP.callg (As := []) (q := (RX9, TX9, 7)) hI hc k_L_law_185 d_L_law_966 rfl rfl (by decide) rfl rfl (by decide) (fun h g1 hI1 hP => ?_)
  obtain ⟨Q, hr, hQ⟩ := hm h g1 hI1 hP
  refine QP.aload_n (i := 2) d_L_law_969 rfl rfl ?_
  refine QP.callr (As := []) (q := (RX10, TX10, 15)) hI1 hr k_L_law_188 d_L_law_970 rfl rfl (by decide) rfl rfl (Nat.le_of_ble_eq_true rfl) (fun h2 q2 => ?_)
  exact QP.icmp_eq (tgt := 2751) d_L_law_973 (by decide) (fun _ => hn _ _ _ _ _ _ hI1 (hQ h2 q2)) (fun q => absurd rfl q)
theorem lb_delay {S : am_S} {n j : Nat} {x5 x6 x7 x8 : Value} {hi : am_HI} {g : am_G} {r : Int32} (hI : am_Inv g) (ho : OpV M_X9_delay M_X10_delay (.int r) hi g) (hn : LN S n j) : QP S (n + 1, 6 * (n + 1)) 978 (lL j x5 x6 x7 x8) [] hi g := by
  refine QP.less (b' := (n, 6 * n)) ?_ ⟨by show n ≤ n + 1; omega, by show 6 * n ≤ 6 * (n + 1); omega⟩
  obtain ⟨P, hc, hm⟩ := ho
  refine QP.aload_n (i := 1) d_L_law_978 rfl rfl ?_
  refine QP.callg (As := []) (q := (RX9, TX9, 7)) hI hc k_L_law_189 d_L_law_979 rfl rfl (by decide) rfl rfl (by decide) (fun h g1 hI1 hP => ?_)
  obtain ⟨Q, hr, hQ⟩ := hm h g1 hI1 hP
  refine QP.aload_n (i := 2) d_L_law_982 rfl rfl ?_
  refine QP.callr (As := []) (q := (RX10, TX10, 15)) hI1 hr k_L_law_192 d_L_law_983 rfl rfl (by decide) rfl rfl (Nat.le_of_ble_eq_true rfl) (fun h2 q2 => ?_)
  exact QP.icmp_eq (tgt := 2751) d_L_law_986 (by decide) (fun _ => hn _ _ _ _ _ _ hI1 (hQ h2 q2)) (fun q => absurd rfl q)
theorem lb_speed {S : am_S} {n j : Nat} {x5 x6 x7 x8 : Value} {hi : am_HI} {g : am_G} {r : Int32} (hI : am_Inv g) (ho : OpV M_X9_speed M_X10_speed (.int r) hi g) (hn : LN S n j) : QP S (n + 1, 6 * (n + 1)) 991 (lL j x5 x6 x7 x8) [] hi g := by
  refine QP.less (b' := (n, 6 * n)) ?_ ⟨by show n ≤ n + 1; omega, by show 6 * n ≤ 6 * (n + 1); omega⟩
  obtain ⟨P, hc, hm⟩ := ho
  refine QP.aload_n (i := 1) d_L_law_991 rfl rfl ?_
  refine QP.callg (As := []) (q := (RX9, TX9, 7)) hI hc k_L_law_193 d_L_law_992 rfl rfl (by decide) rfl rfl (by decide) (fun h g1 hI1 hP => ?_)
  obtain ⟨Q, hr, hQ⟩ := hm h g1 hI1 hP
  refine QP.aload_n (i := 2) d_L_law_995 rfl rfl ?_
  refine QP.callr (As := []) (q := (RX10, TX10, 15)) hI1 hr k_L_law_196 d_L_law_996 rfl rfl (by decide) rfl rfl (Nat.le_of_ble_eq_true rfl) (fun h2 q2 => ?_)
  exact QP.icmp_eq (tgt := 2751) d_L_law_999 (by decide) (fun _ => hn _ _ _ _ _ _ hI1 (hQ h2 q2)) (fun q => absurd rfl q)
theorem lb_allowed {S : am_S} {n j : Nat} {x5 x6 x7 x8 : Value} {hi : am_HI} {g : am_G} {r : Int32} (hI : am_Inv g) (ho : OpV M_X9_allowed M_X10_allowed (.int r) hi g) (hn : LN S n j) : QP S (n + 1, 6 * (n + 1)) 1004 (lL j x5 x6 x7 x8) [] hi g := by
  refine QP.less (b' := (n, 6 * n)) ?_ ⟨by show n ≤ n + 1; omega, by show 6 * n ≤ 6 * (n + 1); omega⟩
  obtain ⟨P, hc, hm⟩ := ho
  refine QP.aload_n (i := 1) d_L_law_1004 rfl rfl ?_
  refine QP.callg (As := []) (q := (RX9, TX9, 7)) hI hc k_L_law_197 d_L_law_1005 rfl rfl (by decide) rfl rfl (by decide) (fun h g1 hI1 hP => ?_)
  obtain ⟨Q, hr, hQ⟩ := hm h g1 hI1 hP
  refine QP.aload_n (i := 2) d_L_law_1008 rfl rfl ?_
  refine QP.callr (As := []) (q := (RX10, TX10, 15)) hI1 hr k_L_law_200 d_L_law_1009 rfl rfl (by decide) rfl rfl (Nat.le_of_ble_eq_true rfl) (fun h2 q2 => ?_)
  exact QP.icmp_eq (tgt := 2751) d_L_law_1012 (by decide) (fun _ => hn _ _ _ _ _ _ hI1 (hQ h2 q2)) (fun q => absurd rfl q)
theorem lb_firstWeight {S : am_S} {n j : Nat} {x5 x6 x7 x8 : Value} {hi : am_HI} {g : am_G} (hI : am_Inv g) (hS : S.2.1 ≤ 2048) (hj : j + 3 < S.2.1) (ho : OpI M_L_firstWeight M_X10_firstWeight [.int (S.2.2 (j + 1))] hi g) (hn : LN S n j) : QP S (n + 1, 6 * (n + 1)) 1017 (lL j x5 x6 x7 x8) [] hi g := by
  obtain ⟨code, P, hc, hm⟩ := ho
  refine QP.aload_n (i := 1) d_L_law_1017 rfl rfl ?_
  refine QP.rdk (j := j) (k := 1) d_L_law_1018 d_L_law_1019 d_L_law_1021 d_L_law_1022 d_L_law_1023 rfl (by omega) hS ?_
  refine QP.aload_n (i := 3) d_L_law_1024 rfl rfl ?_
  refine QP.calll (As := [.ref 0, .int (S.2.2 (j + 1)), .ref 133]) hI hc kx_firstWeight d_L_law_1025 rfl (by decide) (fun h g1 hI1 hP => ?_)
  obtain ⟨r, Q, hr, hQ⟩ := hm h g1 hI1 hP
  refine QP.istore (i := 5) d_L_law_1028 (by decide) (by decide) rfl ?_
  refine QP.aload_n (i := 2) d_L_law_1030 rfl rfl ?_
  refine QP.rdk (j := j) (k := 1) d_L_law_1031 d_L_law_1032 d_L_law_1034 d_L_law_1035 d_L_law_1036 rfl (by omega) hS ?_
  refine QP.callr (As := [.int (S.2.2 (j + 1))]) (q := (RX10, TX10, 15)) hI1 hr k_L_law_203 d_L_law_1037 rfl rfl (by decide) rfl rfl (by decide) (fun h2 q2 => ?_)
  obtain ⟨e1, e2, e3⟩ := hQ h2 q2
  refine QP.istore (i := 6) d_L_law_1040 (by decide) (by decide) rfl ?_
  refine QP.aload_n (i := 2) d_L_law_1042 rfl rfl ?_
  refine QP.callr (As := []) (q := (RX10, TX10, 15)) hI1 (m_thrown hI1) k_L_law_141 d_L_law_1043 rfl rfl (by decide) rfl rfl (by decide) (fun h3 q3 => ?_)
  subst q3
  refine QP.iload (i := 5) d_L_law_1046 rfl ?_
  refine QP.icmp_eq (tgt := 1053) d_L_law_1048 (by decide) (fun _ => ?_) (fun q => absurd e1 q)
  refine QP.iload (i := 5) d_L_law_1053 rfl ?_
  refine QP.if_ne (tgt := 1070) d_L_law_1055 (by decide) (fun _ => QP.goto (tgt := 2751) d_L_law_1070 (by decide) (hn _ _ _ _ _ _ hI1 e3)) (fun c0 => ?_)
  refine QP.aload_n (i := 3) d_L_law_1058 rfl rfl ?_
  refine QP.iconst (x := 0) d_L_law_1059 (by decide) ?_
  refine QP.lald (n := 1) (j := 0) d_L_law_1060 rfl (hI1.lt (by decide)) (by decide) rfl (by decide) ?_
  rw [e2 c0]
  refine QP.iload (i := 6) d_L_law_1061 rfl ?_
  refine QP.i2l d_L_law_1063 ?_
  refine QP.lcmp d_L_law_1064 ?_
  exact QP.if_eq (tgt := 1070) d_L_law_1065 (by decide) (fun _ => QP.goto (tgt := 2751) d_L_law_1070 (by decide) (hn _ _ _ _ _ _ hI1 e3)) (fun q => absurd (lg_cmp_rf _) q)
theorem lb_weightAt {S : am_S} {n j : Nat} {x5 x6 x7 x8 : Value} {hi : am_HI} {g : am_G} (hI : am_Inv g) (hS : S.2.1 ≤ 2048) (hj : j + 3 < S.2.1) (ho : OpI M_L_weightAt M_X10_weightAt [.int (S.2.2 (j + 1)), .int (S.2.2 (j + 2))] hi g) (hn : LN S n j) : QP S (n + 1, 6 * (n + 1)) 1114 (lL j x5 x6 x7 x8) [] hi g := by
  obtain ⟨code, P, hc, hm⟩ := ho
  refine QP.aload_n (i := 1) d_L_law_1114 rfl rfl ?_
  refine QP.rdk (j := j) (k := 1) d_L_law_1115 d_L_law_1116 d_L_law_1118 d_L_law_1119 d_L_law_1120 rfl (by omega) hS ?_
  refine QP.rdk (j := j) (k := 2) d_L_law_1121 d_L_law_1122 d_L_law_1124 d_L_law_1125 d_L_law_1126 rfl (by omega) hS ?_
  refine QP.aload_n (i := 3) d_L_law_1127 rfl rfl ?_
  refine QP.calll (As := [.ref 0, .int (S.2.2 (j + 1)), .int (S.2.2 (j + 2)), .ref 133]) hI hc kx_weightAt d_L_law_1128 rfl (by decide) (fun h g1 hI1 hP => ?_)
  obtain ⟨r, Q, hr, hQ⟩ := hm h g1 hI1 hP
  refine QP.istore (i := 5) d_L_law_1131 (by decide) (by decide) rfl ?_
  refine QP.aload_n (i := 2) d_L_law_1133 rfl rfl ?_
  refine QP.rdk (j := j) (k := 1) d_L_law_1134 d_L_law_1135 d_L_law_1137 d_L_law_1138 d_L_law_1139 rfl (by omega) hS ?_
  refine QP.rdk (j := j) (k := 2) d_L_law_1140 d_L_law_1141 d_L_law_1143 d_L_law_1144 d_L_law_1145 rfl (by omega) hS ?_
  refine QP.callr (As := [.int (S.2.2 (j + 1)), .int (S.2.2 (j + 2))]) (q := (RX10, TX10, 15)) hI1 hr k_L_law_211 d_L_law_1146 rfl rfl (by decide) rfl rfl (by decide) (fun h2 q2 => ?_)
  obtain ⟨e1, e2, e3⟩ := hQ h2 q2
  refine QP.istore (i := 6) d_L_law_1149 (by decide) (by decide) rfl ?_
  refine QP.aload_n (i := 2) d_L_law_1151 rfl rfl ?_
  refine QP.callr (As := []) (q := (RX10, TX10, 15)) hI1 (m_thrown hI1) k_L_law_141 d_L_law_1152 rfl rfl (by decide) rfl rfl (by decide) (fun h3 q3 => ?_)
  subst q3
  refine QP.iload (i := 5) d_L_law_1155 rfl ?_
  refine QP.icmp_eq (tgt := 1162) d_L_law_1157 (by decide) (fun _ => ?_) (fun q => absurd e1 q)
  refine QP.iload (i := 5) d_L_law_1162 rfl ?_
  refine QP.if_ne (tgt := 1179) d_L_law_1164 (by decide) (fun _ => QP.goto (tgt := 2751) d_L_law_1179 (by decide) (hn _ _ _ _ _ _ hI1 e3)) (fun c0 => ?_)
  refine QP.aload_n (i := 3) d_L_law_1167 rfl rfl ?_
  refine QP.iconst (x := 0) d_L_law_1168 (by decide) ?_
  refine QP.lald (n := 1) (j := 0) d_L_law_1169 rfl (hI1.lt (by decide)) (by decide) rfl (by decide) ?_
  rw [e2 c0]
  refine QP.iload (i := 6) d_L_law_1170 rfl ?_
  refine QP.i2l d_L_law_1172 ?_
  refine QP.lcmp d_L_law_1173 ?_
  exact QP.if_eq (tgt := 1179) d_L_law_1174 (by decide) (fun _ => QP.goto (tgt := 2751) d_L_law_1179 (by decide) (hn _ _ _ _ _ _ hI1 e3)) (fun q => absurd (lg_cmp_rf _) q)
theorem lb_weightByCounting {S : am_S} {n j : Nat} {x5 x6 x7 x8 : Value} {hi : am_HI} {g : am_G} (hI : am_Inv g) (hS : S.2.1 ≤ 2048) (hj : j + 3 < S.2.1) (ho : OpI M_L_weightByCounting M_X10_weightByCounting [.int (S.2.2 (j + 1)), .int (S.2.2 (j + 2))] hi g) (hn : LN S n j) : QP S (n + 1, 6 * (n + 1)) 1182 (lL j x5 x6 x7 x8) [] hi g := by
  obtain ⟨code, P, hc, hm⟩ := ho
  refine QP.aload_n (i := 1) d_L_law_1182 rfl rfl ?_
  refine QP.rdk (j := j) (k := 1) d_L_law_1183 d_L_law_1184 d_L_law_1186 d_L_law_1187 d_L_law_1188 rfl (by omega) hS ?_
  refine QP.rdk (j := j) (k := 2) d_L_law_1189 d_L_law_1190 d_L_law_1192 d_L_law_1193 d_L_law_1194 rfl (by omega) hS ?_
  refine QP.aload_n (i := 3) d_L_law_1195 rfl rfl ?_
  refine QP.calll (As := [.ref 0, .int (S.2.2 (j + 1)), .int (S.2.2 (j + 2)), .ref 133]) hI hc kx_weightByCounting d_L_law_1196 rfl (by decide) (fun h g1 hI1 hP => ?_)
  obtain ⟨r, Q, hr, hQ⟩ := hm h g1 hI1 hP
  refine QP.istore (i := 5) d_L_law_1199 (by decide) (by decide) rfl ?_
  refine QP.aload_n (i := 2) d_L_law_1201 rfl rfl ?_
  refine QP.rdk (j := j) (k := 1) d_L_law_1202 d_L_law_1203 d_L_law_1205 d_L_law_1206 d_L_law_1207 rfl (by omega) hS ?_
  refine QP.rdk (j := j) (k := 2) d_L_law_1208 d_L_law_1209 d_L_law_1211 d_L_law_1212 d_L_law_1213 rfl (by omega) hS ?_
  refine QP.callr (As := [.int (S.2.2 (j + 1)), .int (S.2.2 (j + 2))]) (q := (RX10, TX10, 15)) hI1 hr k_L_law_214 d_L_law_1214 rfl rfl (by decide) rfl rfl (by decide) (fun h2 q2 => ?_)
  obtain ⟨e1, e2, e3⟩ := hQ h2 q2
  refine QP.istore (i := 6) d_L_law_1217 (by decide) (by decide) rfl ?_
  refine QP.aload_n (i := 2) d_L_law_1219 rfl rfl ?_
  refine QP.callr (As := []) (q := (RX10, TX10, 15)) hI1 (m_thrown hI1) k_L_law_141 d_L_law_1220 rfl rfl (by decide) rfl rfl (by decide) (fun h3 q3 => ?_)
  subst q3
  refine QP.iload (i := 5) d_L_law_1223 rfl ?_
  refine QP.icmp_eq (tgt := 1230) d_L_law_1225 (by decide) (fun _ => ?_) (fun q => absurd e1 q)
  refine QP.iload (i := 5) d_L_law_1230 rfl ?_
  refine QP.if_ne (tgt := 1247) d_L_law_1232 (by decide) (fun _ => QP.goto (tgt := 2751) d_L_law_1247 (by decide) (hn _ _ _ _ _ _ hI1 e3)) (fun c0 => ?_)
  refine QP.aload_n (i := 3) d_L_law_1235 rfl rfl ?_
  refine QP.iconst (x := 0) d_L_law_1236 (by decide) ?_
  refine QP.lald (n := 1) (j := 0) d_L_law_1237 rfl (hI1.lt (by decide)) (by decide) rfl (by decide) ?_
  rw [e2 c0]
  refine QP.iload (i := 6) d_L_law_1238 rfl ?_
  refine QP.i2l d_L_law_1240 ?_
  refine QP.lcmp d_L_law_1241 ?_
  exact QP.if_eq (tgt := 1247) d_L_law_1242 (by decide) (fun _ => QP.goto (tgt := 2751) d_L_law_1247 (by decide) (hn _ _ _ _ _ _ hI1 e3)) (fun q => absurd (lg_cmp_rf _) q)
theorem lb_foretold {S : am_S} {n j : Nat} {x5 x6 x7 x8 : Value} {hi : am_HI} {g : am_G} (hI : am_Inv g) (hS : S.2.1 ≤ 2048) (hj : j + 3 < S.2.1) (ho : OpI M_L_foretold M_X10_foretold [.int (S.2.2 (j + 1)), .int (S.2.2 (j + 2))] hi g) (hn : LN S n j) : QP S (n + 1, 6 * (n + 1)) 1250 (lL j x5 x6 x7 x8) [] hi g := by
  obtain ⟨code, P, hc, hm⟩ := ho
  refine QP.aload_n (i := 1) d_L_law_1250 rfl rfl ?_
  refine QP.rdk (j := j) (k := 1) d_L_law_1251 d_L_law_1252 d_L_law_1254 d_L_law_1255 d_L_law_1256 rfl (by omega) hS ?_
  refine QP.rdk (j := j) (k := 2) d_L_law_1257 d_L_law_1258 d_L_law_1260 d_L_law_1261 d_L_law_1262 rfl (by omega) hS ?_
  refine QP.aload_n (i := 3) d_L_law_1263 rfl rfl ?_
  refine QP.calll (As := [.ref 0, .int (S.2.2 (j + 1)), .int (S.2.2 (j + 2)), .ref 133]) hI hc kx_foretold d_L_law_1264 rfl (by decide) (fun h g1 hI1 hP => ?_)
  obtain ⟨r, Q, hr, hQ⟩ := hm h g1 hI1 hP
  refine QP.istore (i := 5) d_L_law_1267 (by decide) (by decide) rfl ?_
  refine QP.aload_n (i := 2) d_L_law_1269 rfl rfl ?_
  refine QP.rdk (j := j) (k := 1) d_L_law_1270 d_L_law_1271 d_L_law_1273 d_L_law_1274 d_L_law_1275 rfl (by omega) hS ?_
  refine QP.rdk (j := j) (k := 2) d_L_law_1276 d_L_law_1277 d_L_law_1279 d_L_law_1280 d_L_law_1281 rfl (by omega) hS ?_
  refine QP.callr (As := [.int (S.2.2 (j + 1)), .int (S.2.2 (j + 2))]) (q := (RX10, TX10, 15)) hI1 hr k_L_law_217 d_L_law_1282 rfl rfl (by decide) rfl rfl (by decide) (fun h2 q2 => ?_)
  obtain ⟨e1, e2, e3⟩ := hQ h2 q2
  refine QP.istore (i := 6) d_L_law_1285 (by decide) (by decide) rfl ?_
  refine QP.aload_n (i := 2) d_L_law_1287 rfl rfl ?_
  refine QP.callr (As := []) (q := (RX10, TX10, 15)) hI1 (m_thrown hI1) k_L_law_141 d_L_law_1288 rfl rfl (by decide) rfl rfl (by decide) (fun h3 q3 => ?_)
  subst q3
  refine QP.iload (i := 5) d_L_law_1291 rfl ?_
  refine QP.icmp_eq (tgt := 1298) d_L_law_1293 (by decide) (fun _ => ?_) (fun q => absurd e1 q)
  refine QP.iload (i := 5) d_L_law_1298 rfl ?_
  refine QP.if_ne (tgt := 1315) d_L_law_1300 (by decide) (fun _ => QP.goto (tgt := 2751) d_L_law_1315 (by decide) (hn _ _ _ _ _ _ hI1 e3)) (fun c0 => ?_)
  refine QP.aload_n (i := 3) d_L_law_1303 rfl rfl ?_
  refine QP.iconst (x := 0) d_L_law_1304 (by decide) ?_
  refine QP.lald (n := 1) (j := 0) d_L_law_1305 rfl (hI1.lt (by decide)) (by decide) rfl (by decide) ?_
  rw [e2 c0]
  refine QP.iload (i := 6) d_L_law_1306 rfl ?_
  refine QP.i2l d_L_law_1308 ?_
  refine QP.lcmp d_L_law_1309 ?_
  exact QP.if_eq (tgt := 1315) d_L_law_1310 (by decide) (fun _ => QP.goto (tgt := 2751) d_L_law_1315 (by decide) (hn _ _ _ _ _ _ hI1 e3)) (fun q => absurd (lg_cmp_rf _) q)
theorem lb_leftOver {S : am_S} {n j : Nat} {x5 x6 x7 x8 : Value} {hi : am_HI} {g : am_G} (hI : am_Inv g) (hS : S.2.1 ≤ 2048) (hj : j + 3 < S.2.1) (ho : OpI M_L_leftOver M_X10_leftOver [.int (S.2.2 (j + 1)), .int (S.2.2 (j + 2))] hi g) (hn : LN S n j) : QP S (n + 1, 6 * (n + 1)) 1318 (lL j x5 x6 x7 x8) [] hi g := by
  obtain ⟨code, P, hc, hm⟩ := ho
  refine QP.aload_n (i := 1) d_L_law_1318 rfl rfl ?_
  refine QP.rdk (j := j) (k := 1) d_L_law_1319 d_L_law_1320 d_L_law_1322 d_L_law_1323 d_L_law_1324 rfl (by omega) hS ?_
  refine QP.rdk (j := j) (k := 2) d_L_law_1325 d_L_law_1326 d_L_law_1328 d_L_law_1329 d_L_law_1330 rfl (by omega) hS ?_
  refine QP.aload_n (i := 3) d_L_law_1331 rfl rfl ?_
  refine QP.calll (As := [.ref 0, .int (S.2.2 (j + 1)), .int (S.2.2 (j + 2)), .ref 133]) hI hc kx_leftOver d_L_law_1332 rfl (by decide) (fun h g1 hI1 hP => ?_)
  obtain ⟨r, Q, hr, hQ⟩ := hm h g1 hI1 hP
  refine QP.istore (i := 5) d_L_law_1335 (by decide) (by decide) rfl ?_
  refine QP.aload_n (i := 2) d_L_law_1337 rfl rfl ?_
  refine QP.rdk (j := j) (k := 1) d_L_law_1338 d_L_law_1339 d_L_law_1341 d_L_law_1342 d_L_law_1343 rfl (by omega) hS ?_
  refine QP.rdk (j := j) (k := 2) d_L_law_1344 d_L_law_1345 d_L_law_1347 d_L_law_1348 d_L_law_1349 rfl (by omega) hS ?_
  refine QP.callr (As := [.int (S.2.2 (j + 1)), .int (S.2.2 (j + 2))]) (q := (RX10, TX10, 15)) hI1 hr k_L_law_220 d_L_law_1350 rfl rfl (by decide) rfl rfl (by decide) (fun h2 q2 => ?_)
  obtain ⟨e1, e2, e3⟩ := hQ h2 q2
  refine QP.istore (i := 6) d_L_law_1353 (by decide) (by decide) rfl ?_
  refine QP.aload_n (i := 2) d_L_law_1355 rfl rfl ?_
  refine QP.callr (As := []) (q := (RX10, TX10, 15)) hI1 (m_thrown hI1) k_L_law_141 d_L_law_1356 rfl rfl (by decide) rfl rfl (by decide) (fun h3 q3 => ?_)
  subst q3
  refine QP.iload (i := 5) d_L_law_1359 rfl ?_
  refine QP.icmp_eq (tgt := 1366) d_L_law_1361 (by decide) (fun _ => ?_) (fun q => absurd e1 q)
  refine QP.iload (i := 5) d_L_law_1366 rfl ?_
  refine QP.if_ne (tgt := 1383) d_L_law_1368 (by decide) (fun _ => QP.goto (tgt := 2751) d_L_law_1383 (by decide) (hn _ _ _ _ _ _ hI1 e3)) (fun c0 => ?_)
  refine QP.aload_n (i := 3) d_L_law_1371 rfl rfl ?_
  refine QP.iconst (x := 0) d_L_law_1372 (by decide) ?_
  refine QP.lald (n := 1) (j := 0) d_L_law_1373 rfl (hI1.lt (by decide)) (by decide) rfl (by decide) ?_
  rw [e2 c0]
  refine QP.iload (i := 6) d_L_law_1374 rfl ?_
  refine QP.i2l d_L_law_1376 ?_
  refine QP.lcmp d_L_law_1377 ?_
  exact QP.if_eq (tgt := 1383) d_L_law_1378 (by decide) (fun _ => QP.goto (tgt := 2751) d_L_law_1383 (by decide) (hn _ _ _ _ _ _ hI1 e3)) (fun q => absurd (lg_cmp_rf _) q)
theorem lb_sumOf {S : am_S} {n j : Nat} {x5 x6 x7 x8 : Value} {hi : am_HI} {g : am_G} (hI : am_Inv g) (hS : S.2.1 ≤ 2048) (hj : j + 3 < S.2.1) (ho : OpI M_L_sumOf M_X10_sumOf [.int (S.2.2 (j + 1))] hi g) (hn : LN S n j) : QP S (n + 1, 6 * (n + 1)) 1386 (lL j x5 x6 x7 x8) [] hi g := by
  obtain ⟨code, P, hc, hm⟩ := ho
  refine QP.aload_n (i := 1) d_L_law_1386 rfl rfl ?_
  refine QP.rdk (j := j) (k := 1) d_L_law_1387 d_L_law_1388 d_L_law_1390 d_L_law_1391 d_L_law_1392 rfl (by omega) hS ?_
  refine QP.aload_n (i := 3) d_L_law_1393 rfl rfl ?_
  refine QP.calll (As := [.ref 0, .int (S.2.2 (j + 1)), .ref 133]) hI hc kx_sumOf d_L_law_1394 rfl (by decide) (fun h g1 hI1 hP => ?_)
  obtain ⟨r, Q, hr, hQ⟩ := hm h g1 hI1 hP
  refine QP.istore (i := 5) d_L_law_1397 (by decide) (by decide) rfl ?_
  refine QP.aload_n (i := 2) d_L_law_1399 rfl rfl ?_
  refine QP.rdk (j := j) (k := 1) d_L_law_1400 d_L_law_1401 d_L_law_1403 d_L_law_1404 d_L_law_1405 rfl (by omega) hS ?_
  refine QP.callr (As := [.int (S.2.2 (j + 1))]) (q := (RX10, TX10, 15)) hI1 hr k_L_law_223 d_L_law_1406 rfl rfl (by decide) rfl rfl (by decide) (fun h2 q2 => ?_)
  obtain ⟨e1, e2, e3⟩ := hQ h2 q2
  refine QP.istore (i := 6) d_L_law_1409 (by decide) (by decide) rfl ?_
  refine QP.aload_n (i := 2) d_L_law_1411 rfl rfl ?_
  refine QP.callr (As := []) (q := (RX10, TX10, 15)) hI1 (m_thrown hI1) k_L_law_141 d_L_law_1412 rfl rfl (by decide) rfl rfl (by decide) (fun h3 q3 => ?_)
  subst q3
  refine QP.iload (i := 5) d_L_law_1415 rfl ?_
  refine QP.icmp_eq (tgt := 1422) d_L_law_1417 (by decide) (fun _ => ?_) (fun q => absurd e1 q)
  refine QP.iload (i := 5) d_L_law_1422 rfl ?_
  refine QP.if_ne (tgt := 1439) d_L_law_1424 (by decide) (fun _ => QP.goto (tgt := 2751) d_L_law_1439 (by decide) (hn _ _ _ _ _ _ hI1 e3)) (fun c0 => ?_)
  refine QP.aload_n (i := 3) d_L_law_1427 rfl rfl ?_
  refine QP.iconst (x := 0) d_L_law_1428 (by decide) ?_
  refine QP.lald (n := 1) (j := 0) d_L_law_1429 rfl (hI1.lt (by decide)) (by decide) rfl (by decide) ?_
  rw [e2 c0]
  refine QP.iload (i := 6) d_L_law_1430 rfl ?_
  refine QP.i2l d_L_law_1432 ?_
  refine QP.lcmp d_L_law_1433 ?_
  exact QP.if_eq (tgt := 1439) d_L_law_1434 (by decide) (fun _ => QP.goto (tgt := 2751) d_L_law_1439 (by decide) (hn _ _ _ _ _ _ hI1 e3)) (fun q => absurd (lg_cmp_rf _) q)
theorem lb_sumWithDelay {S : am_S} {n j : Nat} {x5 x6 x7 x8 : Value} {hi : am_HI} {g : am_G} (hI : am_Inv g) (hS : S.2.1 ≤ 2048) (hj : j + 3 < S.2.1) (ho : OpI M_L_sumWithDelay M_X10_sumWithDelay [.int (S.2.2 (j + 1))] hi g) (hn : LN S n j) : QP S (n + 1, 6 * (n + 1)) 1442 (lL j x5 x6 x7 x8) [] hi g := by
  obtain ⟨code, P, hc, hm⟩ := ho
  refine QP.aload_n (i := 1) d_L_law_1442 rfl rfl ?_
  refine QP.rdk (j := j) (k := 1) d_L_law_1443 d_L_law_1444 d_L_law_1446 d_L_law_1447 d_L_law_1448 rfl (by omega) hS ?_
  refine QP.aload_n (i := 3) d_L_law_1449 rfl rfl ?_
  refine QP.calll (As := [.ref 0, .int (S.2.2 (j + 1)), .ref 133]) hI hc kx_sumWithDelay d_L_law_1450 rfl (by decide) (fun h g1 hI1 hP => ?_)
  obtain ⟨r, Q, hr, hQ⟩ := hm h g1 hI1 hP
  refine QP.istore (i := 5) d_L_law_1453 (by decide) (by decide) rfl ?_
  refine QP.aload_n (i := 2) d_L_law_1455 rfl rfl ?_
  refine QP.rdk (j := j) (k := 1) d_L_law_1456 d_L_law_1457 d_L_law_1459 d_L_law_1460 d_L_law_1461 rfl (by omega) hS ?_
  refine QP.callr (As := [.int (S.2.2 (j + 1))]) (q := (RX10, TX10, 15)) hI1 hr k_L_law_226 d_L_law_1462 rfl rfl (by decide) rfl rfl (by decide) (fun h2 q2 => ?_)
  obtain ⟨e1, e2, e3⟩ := hQ h2 q2
  refine QP.istore (i := 6) d_L_law_1465 (by decide) (by decide) rfl ?_
  refine QP.aload_n (i := 2) d_L_law_1467 rfl rfl ?_
  refine QP.callr (As := []) (q := (RX10, TX10, 15)) hI1 (m_thrown hI1) k_L_law_141 d_L_law_1468 rfl rfl (by decide) rfl rfl (by decide) (fun h3 q3 => ?_)
  subst q3
  refine QP.iload (i := 5) d_L_law_1471 rfl ?_
  refine QP.icmp_eq (tgt := 1478) d_L_law_1473 (by decide) (fun _ => ?_) (fun q => absurd e1 q)
  refine QP.iload (i := 5) d_L_law_1478 rfl ?_
  refine QP.if_ne (tgt := 1495) d_L_law_1480 (by decide) (fun _ => QP.goto (tgt := 2751) d_L_law_1495 (by decide) (hn _ _ _ _ _ _ hI1 e3)) (fun c0 => ?_)
  refine QP.aload_n (i := 3) d_L_law_1483 rfl rfl ?_
  refine QP.iconst (x := 0) d_L_law_1484 (by decide) ?_
  refine QP.lald (n := 1) (j := 0) d_L_law_1485 rfl (hI1.lt (by decide)) (by decide) rfl (by decide) ?_
  rw [e2 c0]
  refine QP.iload (i := 6) d_L_law_1486 rfl ?_
  refine QP.i2l d_L_law_1488 ?_
  refine QP.lcmp d_L_law_1489 ?_
  exact QP.if_eq (tgt := 1495) d_L_law_1490 (by decide) (fun _ => QP.goto (tgt := 2751) d_L_law_1495 (by decide) (hn _ _ _ _ _ _ hI1 e3)) (fun q => absurd (lg_cmp_rf _) q)
theorem lb_bestDelay {S : am_S} {n j : Nat} {x5 x6 x7 x8 : Value} {hi : am_HI} {g : am_G} {r : Int32} (hI : am_Inv g) (ho : OpV M_X9_bestDelay M_X10_bestDelay (.int r) hi g) (hn : LN S n j) : QP S (n + 1, 6 * (n + 1)) 1498 (lL j x5 x6 x7 x8) [] hi g := by
  refine QP.less (b' := (n, 6 * n)) ?_ ⟨by show n ≤ n + 1; omega, by show 6 * n ≤ 6 * (n + 1); omega⟩
  obtain ⟨P, hc, hm⟩ := ho
  refine QP.aload_n (i := 1) d_L_law_1498 rfl rfl ?_
  refine QP.callg (As := []) (q := (RX9, TX9, 7)) hI hc k_L_law_227 d_L_law_1499 rfl rfl (by decide) rfl rfl (by decide) (fun h g1 hI1 hP => ?_)
  obtain ⟨Q, hr, hQ⟩ := hm h g1 hI1 hP
  refine QP.aload_n (i := 2) d_L_law_1502 rfl rfl ?_
  refine QP.callr (As := []) (q := (RX10, TX10, 15)) hI1 hr k_L_law_230 d_L_law_1503 rfl rfl (by decide) rfl rfl (Nat.le_of_ble_eq_true rfl) (fun h2 q2 => ?_)
  exact QP.icmp_eq (tgt := 2751) d_L_law_1506 (by decide) (fun _ => hn _ _ _ _ _ _ hI1 (hQ h2 q2)) (fun q => absurd rfl q)
theorem lb_bestSpeed {S : am_S} {n j : Nat} {x5 x6 x7 x8 : Value} {hi : am_HI} {g : am_G} {r : Int32} (hI : am_Inv g) (ho : OpV M_X9_bestSpeed M_X10_bestSpeed (.int r) hi g) (hn : LN S n j) : QP S (n + 1, 6 * (n + 1)) 1511 (lL j x5 x6 x7 x8) [] hi g := by
  refine QP.less (b' := (n, 6 * n)) ?_ ⟨by show n ≤ n + 1; omega, by show 6 * n ≤ 6 * (n + 1); omega⟩
  obtain ⟨P, hc, hm⟩ := ho
  refine QP.aload_n (i := 1) d_L_law_1511 rfl rfl ?_
  refine QP.callg (As := []) (q := (RX9, TX9, 7)) hI hc k_L_law_231 d_L_law_1512 rfl rfl (by decide) rfl rfl (by decide) (fun h g1 hI1 hP => ?_)
  obtain ⟨Q, hr, hQ⟩ := hm h g1 hI1 hP
  refine QP.aload_n (i := 2) d_L_law_1515 rfl rfl ?_
  refine QP.callr (As := []) (q := (RX10, TX10, 15)) hI1 hr k_L_law_234 d_L_law_1516 rfl rfl (by decide) rfl rfl (Nat.le_of_ble_eq_true rfl) (fun h2 q2 => ?_)
  exact QP.icmp_eq (tgt := 2751) d_L_law_1519 (by decide) (fun _ => hn _ _ _ _ _ _ hI1 (hQ h2 q2)) (fun q => absurd rfl q)
theorem lb_bestFirst {S : am_S} {n j : Nat} {x5 x6 x7 x8 : Value} {hi : am_HI} {g : am_G} (hI : am_Inv g) (hS : S.2.1 ≤ 2048) (hj : j + 3 < S.2.1) (ho : OpI M_L_bestFirst M_X10_bestFirst [.int (S.2.2 (j + 1))] hi g) (hn : LN S n j) : QP S (n + 1, 6 * (n + 1)) 1524 (lL j x5 x6 x7 x8) [] hi g := by
  obtain ⟨code, P, hc, hm⟩ := ho
  refine QP.aload_n (i := 1) d_L_law_1524 rfl rfl ?_
  refine QP.rdk (j := j) (k := 1) d_L_law_1525 d_L_law_1526 d_L_law_1528 d_L_law_1529 d_L_law_1530 rfl (by omega) hS ?_
  refine QP.aload_n (i := 3) d_L_law_1531 rfl rfl ?_
  refine QP.calll (As := [.ref 0, .int (S.2.2 (j + 1)), .ref 133]) hI hc kx_bestFirst d_L_law_1532 rfl (by decide) (fun h g1 hI1 hP => ?_)
  obtain ⟨r, Q, hr, hQ⟩ := hm h g1 hI1 hP
  refine QP.istore (i := 5) d_L_law_1535 (by decide) (by decide) rfl ?_
  refine QP.aload_n (i := 2) d_L_law_1537 rfl rfl ?_
  refine QP.rdk (j := j) (k := 1) d_L_law_1538 d_L_law_1539 d_L_law_1541 d_L_law_1542 d_L_law_1543 rfl (by omega) hS ?_
  refine QP.callr (As := [.int (S.2.2 (j + 1))]) (q := (RX10, TX10, 15)) hI1 hr k_L_law_237 d_L_law_1544 rfl rfl (by decide) rfl rfl (by decide) (fun h2 q2 => ?_)
  obtain ⟨e1, e2, e3⟩ := hQ h2 q2
  refine QP.istore (i := 6) d_L_law_1547 (by decide) (by decide) rfl ?_
  refine QP.aload_n (i := 2) d_L_law_1549 rfl rfl ?_
  refine QP.callr (As := []) (q := (RX10, TX10, 15)) hI1 (m_thrown hI1) k_L_law_141 d_L_law_1550 rfl rfl (by decide) rfl rfl (by decide) (fun h3 q3 => ?_)
  subst q3
  refine QP.iload (i := 5) d_L_law_1553 rfl ?_
  refine QP.icmp_eq (tgt := 1560) d_L_law_1555 (by decide) (fun _ => ?_) (fun q => absurd e1 q)
  refine QP.iload (i := 5) d_L_law_1560 rfl ?_
  refine QP.if_ne (tgt := 1577) d_L_law_1562 (by decide) (fun _ => QP.goto (tgt := 2751) d_L_law_1577 (by decide) (hn _ _ _ _ _ _ hI1 e3)) (fun c0 => ?_)
  refine QP.aload_n (i := 3) d_L_law_1565 rfl rfl ?_
  refine QP.iconst (x := 0) d_L_law_1566 (by decide) ?_
  refine QP.lald (n := 1) (j := 0) d_L_law_1567 rfl (hI1.lt (by decide)) (by decide) rfl (by decide) ?_
  rw [e2 c0]
  refine QP.iload (i := 6) d_L_law_1568 rfl ?_
  refine QP.i2l d_L_law_1570 ?_
  refine QP.lcmp d_L_law_1571 ?_
  exact QP.if_eq (tgt := 1577) d_L_law_1572 (by decide) (fun _ => QP.goto (tgt := 2751) d_L_law_1577 (by decide) (hn _ _ _ _ _ _ hI1 e3)) (fun q => absurd (lg_cmp_rf _) q)
theorem lb_bitsWith {S : am_S} {n j : Nat} {x5 x6 x7 x8 : Value} {hi : am_HI} {g : am_G} (hI : am_Inv g) (hS : S.2.1 ≤ 2048) (hj : j + 3 < S.2.1) (ho : OpI M_L_bitsWith M_X10_bitsWith [.int (S.2.2 (j + 1)), .int (S.2.2 (j + 2)), .int (S.2.2 (j + 3))] hi g) (hn : LN S n j) : QP S (n + 1, 6 * (n + 1)) 1580 (lL j x5 x6 x7 x8) [] hi g := by
  obtain ⟨code, P, hc, hm⟩ := ho
  refine QP.aload_n (i := 1) d_L_law_1580 rfl rfl ?_
  refine QP.rdk (j := j) (k := 1) d_L_law_1581 d_L_law_1582 d_L_law_1584 d_L_law_1585 d_L_law_1586 rfl (by omega) hS ?_
  refine QP.rdk (j := j) (k := 2) d_L_law_1587 d_L_law_1588 d_L_law_1590 d_L_law_1591 d_L_law_1592 rfl (by omega) hS ?_
  refine QP.rdk (j := j) (k := 3) d_L_law_1593 d_L_law_1594 d_L_law_1596 d_L_law_1597 d_L_law_1598 rfl (by omega) hS ?_
  refine QP.aload_n (i := 3) d_L_law_1599 rfl rfl ?_
  refine QP.calll (As := [.ref 0, .int (S.2.2 (j + 1)), .int (S.2.2 (j + 2)), .int (S.2.2 (j + 3)), .ref 133]) hI hc kx_bitsWith d_L_law_1600 rfl (by decide) (fun h g1 hI1 hP => ?_)
  obtain ⟨r, Q, hr, hQ⟩ := hm h g1 hI1 hP
  refine QP.istore (i := 5) d_L_law_1603 (by decide) (by decide) rfl ?_
  refine QP.aload_n (i := 2) d_L_law_1605 rfl rfl ?_
  refine QP.rdk (j := j) (k := 1) d_L_law_1606 d_L_law_1607 d_L_law_1609 d_L_law_1610 d_L_law_1611 rfl (by omega) hS ?_
  refine QP.rdk (j := j) (k := 2) d_L_law_1612 d_L_law_1613 d_L_law_1615 d_L_law_1616 d_L_law_1617 rfl (by omega) hS ?_
  refine QP.rdk (j := j) (k := 3) d_L_law_1618 d_L_law_1619 d_L_law_1621 d_L_law_1622 d_L_law_1623 rfl (by omega) hS ?_
  refine QP.callr (As := [.int (S.2.2 (j + 1)), .int (S.2.2 (j + 2)), .int (S.2.2 (j + 3))]) (q := (RX10, TX10, 15)) hI1 hr k_L_law_240 d_L_law_1624 rfl rfl (by decide) rfl rfl (by decide) (fun h2 q2 => ?_)
  obtain ⟨e1, e2, e3⟩ := hQ h2 q2
  refine QP.istore (i := 6) d_L_law_1627 (by decide) (by decide) rfl ?_
  refine QP.aload_n (i := 2) d_L_law_1629 rfl rfl ?_
  refine QP.callr (As := []) (q := (RX10, TX10, 15)) hI1 (m_thrown hI1) k_L_law_141 d_L_law_1630 rfl rfl (by decide) rfl rfl (by decide) (fun h3 q3 => ?_)
  subst q3
  refine QP.iload (i := 5) d_L_law_1633 rfl ?_
  refine QP.icmp_eq (tgt := 1640) d_L_law_1635 (by decide) (fun _ => ?_) (fun q => absurd e1 q)
  refine QP.iload (i := 5) d_L_law_1640 rfl ?_
  refine QP.if_ne (tgt := 1657) d_L_law_1642 (by decide) (fun _ => QP.goto (tgt := 2751) d_L_law_1657 (by decide) (hn _ _ _ _ _ _ hI1 e3)) (fun c0 => ?_)
  refine QP.aload_n (i := 3) d_L_law_1645 rfl rfl ?_
  refine QP.iconst (x := 0) d_L_law_1646 (by decide) ?_
  refine QP.lald (n := 1) (j := 0) d_L_law_1647 rfl (hI1.lt (by decide)) (by decide) rfl (by decide) ?_
  rw [e2 c0]
  refine QP.iload (i := 6) d_L_law_1648 rfl ?_
  refine QP.i2l d_L_law_1650 ?_
  refine QP.lcmp d_L_law_1651 ?_
  exact QP.if_eq (tgt := 1657) d_L_law_1652 (by decide) (fun _ => QP.goto (tgt := 2751) d_L_law_1657 (by decide) (hn _ _ _ _ _ _ hI1 e3)) (fun q => absurd (lg_cmp_rf _) q)
theorem lb_bestParameter {S : am_S} {n j : Nat} {x5 x6 x7 x8 : Value} {hi : am_HI} {g : am_G} (hI : am_Inv g) (hS : S.2.1 ≤ 2048) (hj : j + 3 < S.2.1) (ho : OpI M_L_bestParameter M_X10_bestParameter [.int (S.2.2 (j + 1)), .int (S.2.2 (j + 2))] hi g) (hn : LN S n j) : QP S (n + 1, 6 * (n + 1)) 1660 (lL j x5 x6 x7 x8) [] hi g := by
  obtain ⟨code, P, hc, hm⟩ := ho
  refine QP.aload_n (i := 1) d_L_law_1660 rfl rfl ?_
  refine QP.rdk (j := j) (k := 1) d_L_law_1661 d_L_law_1662 d_L_law_1664 d_L_law_1665 d_L_law_1666 rfl (by omega) hS ?_
  refine QP.rdk (j := j) (k := 2) d_L_law_1667 d_L_law_1668 d_L_law_1670 d_L_law_1671 d_L_law_1672 rfl (by omega) hS ?_
  refine QP.aload_n (i := 3) d_L_law_1673 rfl rfl ?_
  refine QP.calll (As := [.ref 0, .int (S.2.2 (j + 1)), .int (S.2.2 (j + 2)), .ref 133]) hI hc kx_bestParameter d_L_law_1674 rfl (by decide) (fun h g1 hI1 hP => ?_)
  obtain ⟨r, Q, hr, hQ⟩ := hm h g1 hI1 hP
  refine QP.istore (i := 5) d_L_law_1677 (by decide) (by decide) rfl ?_
  refine QP.aload_n (i := 2) d_L_law_1679 rfl rfl ?_
  refine QP.rdk (j := j) (k := 1) d_L_law_1680 d_L_law_1681 d_L_law_1683 d_L_law_1684 d_L_law_1685 rfl (by omega) hS ?_
  refine QP.rdk (j := j) (k := 2) d_L_law_1686 d_L_law_1687 d_L_law_1689 d_L_law_1690 d_L_law_1691 rfl (by omega) hS ?_
  refine QP.callr (As := [.int (S.2.2 (j + 1)), .int (S.2.2 (j + 2))]) (q := (RX10, TX10, 15)) hI1 hr k_L_law_243 d_L_law_1692 rfl rfl (by decide) rfl rfl (by decide) (fun h2 q2 => ?_)
  obtain ⟨e1, e2, e3⟩ := hQ h2 q2
  refine QP.istore (i := 6) d_L_law_1695 (by decide) (by decide) rfl ?_
  refine QP.aload_n (i := 2) d_L_law_1697 rfl rfl ?_
  refine QP.callr (As := []) (q := (RX10, TX10, 15)) hI1 (m_thrown hI1) k_L_law_141 d_L_law_1698 rfl rfl (by decide) rfl rfl (by decide) (fun h3 q3 => ?_)
  subst q3
  refine QP.iload (i := 5) d_L_law_1701 rfl ?_
  refine QP.icmp_eq (tgt := 1708) d_L_law_1703 (by decide) (fun _ => ?_) (fun q => absurd e1 q)
  refine QP.iload (i := 5) d_L_law_1708 rfl ?_
  refine QP.if_ne (tgt := 1725) d_L_law_1710 (by decide) (fun _ => QP.goto (tgt := 2751) d_L_law_1725 (by decide) (hn _ _ _ _ _ _ hI1 e3)) (fun c0 => ?_)
  refine QP.aload_n (i := 3) d_L_law_1713 rfl rfl ?_
  refine QP.iconst (x := 0) d_L_law_1714 (by decide) ?_
  refine QP.lald (n := 1) (j := 0) d_L_law_1715 rfl (hI1.lt (by decide)) (by decide) rfl (by decide) ?_
  rw [e2 c0]
  refine QP.iload (i := 6) d_L_law_1716 rfl ?_
  refine QP.i2l d_L_law_1718 ?_
  refine QP.lcmp d_L_law_1719 ?_
  exact QP.if_eq (tgt := 1725) d_L_law_1720 (by decide) (fun _ => QP.goto (tgt := 2751) d_L_law_1725 (by decide) (hn _ _ _ _ _ _ hI1 e3)) (fun q => absurd (lg_cmp_rf _) q)
theorem lb_bestKind {S : am_S} {n j : Nat} {x5 x6 x7 x8 : Value} {hi : am_HI} {g : am_G} (hI : am_Inv g) (hS : S.2.1 ≤ 2048) (hj : j + 3 < S.2.1) (ho : OpI M_L_bestKind M_X10_bestKind [.int (S.2.2 (j + 1))] hi g) (hn : LN S n j) : QP S (n + 1, 6 * (n + 1)) 1728 (lL j x5 x6 x7 x8) [] hi g := by
  obtain ⟨code, P, hc, hm⟩ := ho
  refine QP.aload_n (i := 1) d_L_law_1728 rfl rfl ?_
  refine QP.rdk (j := j) (k := 1) d_L_law_1729 d_L_law_1730 d_L_law_1732 d_L_law_1733 d_L_law_1734 rfl (by omega) hS ?_
  refine QP.aload_n (i := 3) d_L_law_1735 rfl rfl ?_
  refine QP.calll (As := [.ref 0, .int (S.2.2 (j + 1)), .ref 133]) hI hc kx_bestKind d_L_law_1736 rfl (by decide) (fun h g1 hI1 hP => ?_)
  obtain ⟨r, Q, hr, hQ⟩ := hm h g1 hI1 hP
  refine QP.istore (i := 5) d_L_law_1739 (by decide) (by decide) rfl ?_
  refine QP.aload_n (i := 2) d_L_law_1741 rfl rfl ?_
  refine QP.rdk (j := j) (k := 1) d_L_law_1742 d_L_law_1743 d_L_law_1745 d_L_law_1746 d_L_law_1747 rfl (by omega) hS ?_
  refine QP.callr (As := [.int (S.2.2 (j + 1))]) (q := (RX10, TX10, 15)) hI1 hr k_L_law_246 d_L_law_1748 rfl rfl (by decide) rfl rfl (by decide) (fun h2 q2 => ?_)
  obtain ⟨e1, e2, e3⟩ := hQ h2 q2
  refine QP.istore (i := 6) d_L_law_1751 (by decide) (by decide) rfl ?_
  refine QP.aload_n (i := 2) d_L_law_1753 rfl rfl ?_
  refine QP.callr (As := []) (q := (RX10, TX10, 15)) hI1 (m_thrown hI1) k_L_law_141 d_L_law_1754 rfl rfl (by decide) rfl rfl (by decide) (fun h3 q3 => ?_)
  subst q3
  refine QP.iload (i := 5) d_L_law_1757 rfl ?_
  refine QP.icmp_eq (tgt := 1764) d_L_law_1759 (by decide) (fun _ => ?_) (fun q => absurd e1 q)
  refine QP.iload (i := 5) d_L_law_1764 rfl ?_
  refine QP.if_ne (tgt := 1781) d_L_law_1766 (by decide) (fun _ => QP.goto (tgt := 2751) d_L_law_1781 (by decide) (hn _ _ _ _ _ _ hI1 e3)) (fun c0 => ?_)
  refine QP.aload_n (i := 3) d_L_law_1769 rfl rfl ?_
  refine QP.iconst (x := 0) d_L_law_1770 (by decide) ?_
  refine QP.lald (n := 1) (j := 0) d_L_law_1771 rfl (hI1.lt (by decide)) (by decide) rfl (by decide) ?_
  rw [e2 c0]
  refine QP.iload (i := 6) d_L_law_1772 rfl ?_
  refine QP.i2l d_L_law_1774 ?_
  refine QP.lcmp d_L_law_1775 ?_
  exact QP.if_eq (tgt := 1781) d_L_law_1776 (by decide) (fun _ => QP.goto (tgt := 2751) d_L_law_1781 (by decide) (hn _ _ _ _ _ _ hI1 e3)) (fun q => absurd (lg_cmp_rf _) q)
theorem lb_whyBest {S : am_S} {n j : Nat} {x5 x6 x7 x8 : Value} {hi : am_HI} {g : am_G} (hI : am_Inv g) (hS : S.2.1 ≤ 2048) (hj : j + 3 < S.2.1) (ho : OpI M_L_whyBest M_X10_whyBest [.int (S.2.2 (j + 1))] hi g) (hn : LN S n j) : QP S (n + 1, 6 * (n + 1)) 1784 (lL j x5 x6 x7 x8) [] hi g := by
  obtain ⟨code, P, hc, hm⟩ := ho
  refine QP.aload_n (i := 1) d_L_law_1784 rfl rfl ?_
  refine QP.rdk (j := j) (k := 1) d_L_law_1785 d_L_law_1786 d_L_law_1788 d_L_law_1789 d_L_law_1790 rfl (by omega) hS ?_
  refine QP.aload_n (i := 3) d_L_law_1791 rfl rfl ?_
  refine QP.calll (As := [.ref 0, .int (S.2.2 (j + 1)), .ref 133]) hI hc kx_whyBest d_L_law_1792 rfl (by decide) (fun h g1 hI1 hP => ?_)
  obtain ⟨r, Q, hr, hQ⟩ := hm h g1 hI1 hP
  refine QP.istore (i := 5) d_L_law_1795 (by decide) (by decide) rfl ?_
  refine QP.aload_n (i := 2) d_L_law_1797 rfl rfl ?_
  refine QP.rdk (j := j) (k := 1) d_L_law_1798 d_L_law_1799 d_L_law_1801 d_L_law_1802 d_L_law_1803 rfl (by omega) hS ?_
  refine QP.callr (As := [.int (S.2.2 (j + 1))]) (q := (RX10, TX10, 15)) hI1 hr k_L_law_249 d_L_law_1804 rfl rfl (by decide) rfl rfl (by decide) (fun h2 q2 => ?_)
  obtain ⟨e1, e2, e3⟩ := hQ h2 q2
  refine QP.istore (i := 6) d_L_law_1807 (by decide) (by decide) rfl ?_
  refine QP.aload_n (i := 2) d_L_law_1809 rfl rfl ?_
  refine QP.callr (As := []) (q := (RX10, TX10, 15)) hI1 (m_thrown hI1) k_L_law_141 d_L_law_1810 rfl rfl (by decide) rfl rfl (by decide) (fun h3 q3 => ?_)
  subst q3
  refine QP.iload (i := 5) d_L_law_1813 rfl ?_
  refine QP.icmp_eq (tgt := 1820) d_L_law_1815 (by decide) (fun _ => ?_) (fun q => absurd e1 q)
  refine QP.iload (i := 5) d_L_law_1820 rfl ?_
  refine QP.if_ne (tgt := 1837) d_L_law_1822 (by decide) (fun _ => QP.goto (tgt := 2751) d_L_law_1837 (by decide) (hn _ _ _ _ _ _ hI1 e3)) (fun c0 => ?_)
  refine QP.aload_n (i := 3) d_L_law_1825 rfl rfl ?_
  refine QP.iconst (x := 0) d_L_law_1826 (by decide) ?_
  refine QP.lald (n := 1) (j := 0) d_L_law_1827 rfl (hI1.lt (by decide)) (by decide) rfl (by decide) ?_
  rw [e2 c0]
  refine QP.iload (i := 6) d_L_law_1828 rfl ?_
  refine QP.i2l d_L_law_1830 ?_
  refine QP.lcmp d_L_law_1831 ?_
  exact QP.if_eq (tgt := 1837) d_L_law_1832 (by decide) (fun _ => QP.goto (tgt := 2751) d_L_law_1837 (by decide) (hn _ _ _ _ _ _ hI1 e3)) (fun q => absurd (lg_cmp_rf _) q)
theorem lb_bits {S : am_S} {n j : Nat} {x5 x6 x7 x8 : Value} {hi : am_HI} {g : am_G} {r : Int32} (hI : am_Inv g) (ho : OpV M_X9_bits M_X10_bits (.int r) hi g) (hn : LN S n j) : QP S (n + 1, 6 * (n + 1)) 1840 (lL j x5 x6 x7 x8) [] hi g := by
  refine QP.less (b' := (n, 6 * n)) ?_ ⟨by show n ≤ n + 1; omega, by show 6 * n ≤ 6 * (n + 1); omega⟩
  obtain ⟨P, hc, hm⟩ := ho
  refine QP.aload_n (i := 1) d_L_law_1840 rfl rfl ?_
  refine QP.callg (As := []) (q := (RX9, TX9, 7)) hI hc k_L_law_250 d_L_law_1841 rfl rfl (by decide) rfl rfl (by decide) (fun h g1 hI1 hP => ?_)
  obtain ⟨Q, hr, hQ⟩ := hm h g1 hI1 hP
  refine QP.aload_n (i := 2) d_L_law_1844 rfl rfl ?_
  refine QP.callr (As := []) (q := (RX10, TX10, 15)) hI1 hr k_L_law_253 d_L_law_1845 rfl rfl (by decide) rfl rfl (Nat.le_of_ble_eq_true rfl) (fun h2 q2 => ?_)
  exact QP.icmp_eq (tgt := 2751) d_L_law_1848 (by decide) (fun _ => hn _ _ _ _ _ _ hI1 (hQ h2 q2)) (fun q => absurd rfl q)
theorem lb_bitsByKinds {S : am_S} {n j : Nat} {x5 x6 x7 x8 : Value} {hi : am_HI} {g : am_G} {r : Int32} (hI : am_Inv g) (ho : OpV M_X9_bitsByKinds M_X10_bitsByKinds (.int r) hi g) (hn : LN S n j) : QP S (n + 1, 6 * (n + 1)) 1853 (lL j x5 x6 x7 x8) [] hi g := by
  refine QP.less (b' := (n, 6 * n)) ?_ ⟨by show n ≤ n + 1; omega, by show 6 * n ≤ 6 * (n + 1); omega⟩
  obtain ⟨P, hc, hm⟩ := ho
  refine QP.aload_n (i := 1) d_L_law_1853 rfl rfl ?_
  refine QP.callg (As := []) (q := (RX9, TX9, 7)) hI hc k_L_law_254 d_L_law_1854 rfl rfl (by decide) rfl rfl (by decide) (fun h g1 hI1 hP => ?_)
  obtain ⟨Q, hr, hQ⟩ := hm h g1 hI1 hP
  refine QP.aload_n (i := 2) d_L_law_1857 rfl rfl ?_
  refine QP.callr (As := []) (q := (RX10, TX10, 15)) hI1 hr k_L_law_257 d_L_law_1858 rfl rfl (by decide) rfl rfl (Nat.le_of_ble_eq_true rfl) (fun h2 q2 => ?_)
  exact QP.icmp_eq (tgt := 2751) d_L_law_1861 (by decide) (fun _ => hn _ _ _ _ _ _ hI1 (hQ h2 q2)) (fun q => absurd rfl q)
theorem lb_blocksWith {S : am_S} {n j : Nat} {x5 x6 x7 x8 : Value} {hi : am_HI} {g : am_G} (hI : am_Inv g) (hS : S.2.1 ≤ 2048) (hj : j + 3 < S.2.1) (ho : OpI M_L_blocksWith M_X10_blocksWith [.int (S.2.2 (j + 1))] hi g) (hn : LN S n j) : QP S (n + 1, 6 * (n + 1)) 1866 (lL j x5 x6 x7 x8) [] hi g := by
  obtain ⟨code, P, hc, hm⟩ := ho
  refine QP.aload_n (i := 1) d_L_law_1866 rfl rfl ?_
  refine QP.rdk (j := j) (k := 1) d_L_law_1867 d_L_law_1868 d_L_law_1870 d_L_law_1871 d_L_law_1872 rfl (by omega) hS ?_
  refine QP.aload_n (i := 3) d_L_law_1873 rfl rfl ?_
  refine QP.calll (As := [.ref 0, .int (S.2.2 (j + 1)), .ref 133]) hI hc kx_blocksWith d_L_law_1874 rfl (by decide) (fun h g1 hI1 hP => ?_)
  obtain ⟨r, Q, hr, hQ⟩ := hm h g1 hI1 hP
  refine QP.istore (i := 5) d_L_law_1877 (by decide) (by decide) rfl ?_
  refine QP.aload_n (i := 2) d_L_law_1879 rfl rfl ?_
  refine QP.rdk (j := j) (k := 1) d_L_law_1880 d_L_law_1881 d_L_law_1883 d_L_law_1884 d_L_law_1885 rfl (by omega) hS ?_
  refine QP.callr (As := [.int (S.2.2 (j + 1))]) (q := (RX10, TX10, 15)) hI1 hr k_L_law_260 d_L_law_1886 rfl rfl (by decide) rfl rfl (by decide) (fun h2 q2 => ?_)
  obtain ⟨e1, e2, e3⟩ := hQ h2 q2
  refine QP.istore (i := 6) d_L_law_1889 (by decide) (by decide) rfl ?_
  refine QP.aload_n (i := 2) d_L_law_1891 rfl rfl ?_
  refine QP.callr (As := []) (q := (RX10, TX10, 15)) hI1 (m_thrown hI1) k_L_law_141 d_L_law_1892 rfl rfl (by decide) rfl rfl (by decide) (fun h3 q3 => ?_)
  subst q3
  refine QP.iload (i := 5) d_L_law_1895 rfl ?_
  refine QP.icmp_eq (tgt := 1902) d_L_law_1897 (by decide) (fun _ => ?_) (fun q => absurd e1 q)
  refine QP.iload (i := 5) d_L_law_1902 rfl ?_
  refine QP.if_ne (tgt := 1919) d_L_law_1904 (by decide) (fun _ => QP.goto (tgt := 2751) d_L_law_1919 (by decide) (hn _ _ _ _ _ _ hI1 e3)) (fun c0 => ?_)
  refine QP.aload_n (i := 3) d_L_law_1907 rfl rfl ?_
  refine QP.iconst (x := 0) d_L_law_1908 (by decide) ?_
  refine QP.lald (n := 1) (j := 0) d_L_law_1909 rfl (hI1.lt (by decide)) (by decide) rfl (by decide) ?_
  rw [e2 c0]
  refine QP.iload (i := 6) d_L_law_1910 rfl ?_
  refine QP.i2l d_L_law_1912 ?_
  refine QP.lcmp d_L_law_1913 ?_
  exact QP.if_eq (tgt := 1919) d_L_law_1914 (by decide) (fun _ => QP.goto (tgt := 2751) d_L_law_1919 (by decide) (hn _ _ _ _ _ _ hI1 e3)) (fun q => absurd (lg_cmp_rf _) q)
theorem lb_bitsIfOnly {S : am_S} {n j : Nat} {x5 x6 x7 x8 : Value} {hi : am_HI} {g : am_G} (hI : am_Inv g) (hS : S.2.1 ≤ 2048) (hj : j + 3 < S.2.1) (ho : OpI M_L_bitsIfOnly M_X10_bitsIfOnly [.int (S.2.2 (j + 1))] hi g) (hn : LN S n j) : QP S (n + 1, 6 * (n + 1)) 1922 (lL j x5 x6 x7 x8) [] hi g := by
  obtain ⟨code, P, hc, hm⟩ := ho
  refine QP.aload_n (i := 1) d_L_law_1922 rfl rfl ?_
  refine QP.rdk (j := j) (k := 1) d_L_law_1923 d_L_law_1924 d_L_law_1926 d_L_law_1927 d_L_law_1928 rfl (by omega) hS ?_
  refine QP.aload_n (i := 3) d_L_law_1929 rfl rfl ?_
  refine QP.calll (As := [.ref 0, .int (S.2.2 (j + 1)), .ref 133]) hI hc kx_bitsIfOnly d_L_law_1930 rfl (by decide) (fun h g1 hI1 hP => ?_)
  obtain ⟨r, Q, hr, hQ⟩ := hm h g1 hI1 hP
  refine QP.istore (i := 5) d_L_law_1933 (by decide) (by decide) rfl ?_
  refine QP.aload_n (i := 2) d_L_law_1935 rfl rfl ?_
  refine QP.rdk (j := j) (k := 1) d_L_law_1936 d_L_law_1937 d_L_law_1939 d_L_law_1940 d_L_law_1941 rfl (by omega) hS ?_
  refine QP.callr (As := [.int (S.2.2 (j + 1))]) (q := (RX10, TX10, 15)) hI1 hr k_L_law_263 d_L_law_1942 rfl rfl (by decide) rfl rfl (by decide) (fun h2 q2 => ?_)
  obtain ⟨e1, e2, e3⟩ := hQ h2 q2
  refine QP.istore (i := 6) d_L_law_1945 (by decide) (by decide) rfl ?_
  refine QP.aload_n (i := 2) d_L_law_1947 rfl rfl ?_
  refine QP.callr (As := []) (q := (RX10, TX10, 15)) hI1 (m_thrown hI1) k_L_law_141 d_L_law_1948 rfl rfl (by decide) rfl rfl (by decide) (fun h3 q3 => ?_)
  subst q3
  refine QP.iload (i := 5) d_L_law_1951 rfl ?_
  refine QP.icmp_eq (tgt := 1958) d_L_law_1953 (by decide) (fun _ => ?_) (fun q => absurd e1 q)
  refine QP.iload (i := 5) d_L_law_1958 rfl ?_
  refine QP.if_ne (tgt := 1975) d_L_law_1960 (by decide) (fun _ => QP.goto (tgt := 2751) d_L_law_1975 (by decide) (hn _ _ _ _ _ _ hI1 e3)) (fun c0 => ?_)
  refine QP.aload_n (i := 3) d_L_law_1963 rfl rfl ?_
  refine QP.iconst (x := 0) d_L_law_1964 (by decide) ?_
  refine QP.lald (n := 1) (j := 0) d_L_law_1965 rfl (hI1.lt (by decide)) (by decide) rfl (by decide) ?_
  rw [e2 c0]
  refine QP.iload (i := 6) d_L_law_1966 rfl ?_
  refine QP.i2l d_L_law_1968 ?_
  refine QP.lcmp d_L_law_1969 ?_
  exact QP.if_eq (tgt := 1975) d_L_law_1970 (by decide) (fun _ => QP.goto (tgt := 2751) d_L_law_1975 (by decide) (hn _ _ _ _ _ _ hI1 e3)) (fun q => absurd (lg_cmp_rf _) q)
theorem lb_told {S : am_S} {n j : Nat} {x5 x6 x7 x8 : Value} {hi : am_HI} {g : am_G} {r : Int32} (hI : am_Inv g) (ho : OpV M_X9_told M_X10_told (.int r) hi g) (hn : LN S n j) : QP S (n + 1, 6 * (n + 1)) 1978 (lL j x5 x6 x7 x8) [] hi g := by
  refine QP.less (b' := (n, 6 * n)) ?_ ⟨by show n ≤ n + 1; omega, by show 6 * n ≤ 6 * (n + 1); omega⟩
  obtain ⟨P, hc, hm⟩ := ho
  refine QP.aload_n (i := 1) d_L_law_1978 rfl rfl ?_
  refine QP.callg (As := []) (q := (RX9, TX9, 7)) hI hc k_L_law_264 d_L_law_1979 rfl rfl (by decide) rfl rfl (by decide) (fun h g1 hI1 hP => ?_)
  obtain ⟨Q, hr, hQ⟩ := hm h g1 hI1 hP
  refine QP.aload_n (i := 2) d_L_law_1982 rfl rfl ?_
  refine QP.callr (As := []) (q := (RX10, TX10, 15)) hI1 hr k_L_law_267 d_L_law_1983 rfl rfl (by decide) rfl rfl (Nat.le_of_ble_eq_true rfl) (fun h2 q2 => ?_)
  exact QP.icmp_eq (tgt := 2751) d_L_law_1986 (by decide) (fun _ => hn _ _ _ _ _ _ hI1 (hQ h2 q2)) (fun q => absurd rfl q)
theorem lb_letterKind {S : am_S} {n j : Nat} {x5 x6 x7 x8 : Value} {hi : am_HI} {g : am_G} (hI : am_Inv g) (hS : S.2.1 ≤ 2048) (hj : j + 3 < S.2.1) (ho : OpI M_L_letterKind M_X10_letterKind [.int (S.2.2 (j + 1))] hi g) (hn : LN S n j) : QP S (n + 1, 6 * (n + 1)) 1991 (lL j x5 x6 x7 x8) [] hi g := by
  obtain ⟨code, P, hc, hm⟩ := ho
  refine QP.aload_n (i := 1) d_L_law_1991 rfl rfl ?_
  refine QP.rdk (j := j) (k := 1) d_L_law_1992 d_L_law_1993 d_L_law_1995 d_L_law_1996 d_L_law_1997 rfl (by omega) hS ?_
  refine QP.aload_n (i := 3) d_L_law_1998 rfl rfl ?_
  refine QP.calll (As := [.ref 0, .int (S.2.2 (j + 1)), .ref 133]) hI hc kx_letterKind d_L_law_1999 rfl (by decide) (fun h g1 hI1 hP => ?_)
  obtain ⟨r, Q, hr, hQ⟩ := hm h g1 hI1 hP
  refine QP.istore (i := 5) d_L_law_2002 (by decide) (by decide) rfl ?_
  refine QP.aload_n (i := 2) d_L_law_2004 rfl rfl ?_
  refine QP.rdk (j := j) (k := 1) d_L_law_2005 d_L_law_2006 d_L_law_2008 d_L_law_2009 d_L_law_2010 rfl (by omega) hS ?_
  refine QP.callr (As := [.int (S.2.2 (j + 1))]) (q := (RX10, TX10, 15)) hI1 hr k_L_law_270 d_L_law_2011 rfl rfl (by decide) rfl rfl (by decide) (fun h2 q2 => ?_)
  obtain ⟨e1, e2, e3⟩ := hQ h2 q2
  refine QP.istore (i := 6) d_L_law_2014 (by decide) (by decide) rfl ?_
  refine QP.aload_n (i := 2) d_L_law_2016 rfl rfl ?_
  refine QP.callr (As := []) (q := (RX10, TX10, 15)) hI1 (m_thrown hI1) k_L_law_141 d_L_law_2017 rfl rfl (by decide) rfl rfl (by decide) (fun h3 q3 => ?_)
  subst q3
  refine QP.iload (i := 5) d_L_law_2020 rfl ?_
  refine QP.icmp_eq (tgt := 2027) d_L_law_2022 (by decide) (fun _ => ?_) (fun q => absurd e1 q)
  refine QP.iload (i := 5) d_L_law_2027 rfl ?_
  refine QP.if_ne (tgt := 2044) d_L_law_2029 (by decide) (fun _ => QP.goto (tgt := 2751) d_L_law_2044 (by decide) (hn _ _ _ _ _ _ hI1 e3)) (fun c0 => ?_)
  refine QP.aload_n (i := 3) d_L_law_2032 rfl rfl ?_
  refine QP.iconst (x := 0) d_L_law_2033 (by decide) ?_
  refine QP.lald (n := 1) (j := 0) d_L_law_2034 rfl (hI1.lt (by decide)) (by decide) rfl (by decide) ?_
  rw [e2 c0]
  refine QP.iload (i := 6) d_L_law_2035 rfl ?_
  refine QP.i2l d_L_law_2037 ?_
  refine QP.lcmp d_L_law_2038 ?_
  exact QP.if_eq (tgt := 2044) d_L_law_2039 (by decide) (fun _ => QP.goto (tgt := 2751) d_L_law_2044 (by decide) (hn _ _ _ _ _ _ hI1 e3)) (fun q => absurd (lg_cmp_rf _) q)
theorem lb_letterParameter {S : am_S} {n j : Nat} {x5 x6 x7 x8 : Value} {hi : am_HI} {g : am_G} (hI : am_Inv g) (hS : S.2.1 ≤ 2048) (hj : j + 3 < S.2.1) (ho : OpI M_L_letterParameter M_X10_letterParameter [.int (S.2.2 (j + 1))] hi g) (hn : LN S n j) : QP S (n + 1, 6 * (n + 1)) 2047 (lL j x5 x6 x7 x8) [] hi g := by
  obtain ⟨code, P, hc, hm⟩ := ho
  refine QP.aload_n (i := 1) d_L_law_2047 rfl rfl ?_
  refine QP.rdk (j := j) (k := 1) d_L_law_2048 d_L_law_2049 d_L_law_2051 d_L_law_2052 d_L_law_2053 rfl (by omega) hS ?_
  refine QP.aload_n (i := 3) d_L_law_2054 rfl rfl ?_
  refine QP.calll (As := [.ref 0, .int (S.2.2 (j + 1)), .ref 133]) hI hc kx_letterParameter d_L_law_2055 rfl (by decide) (fun h g1 hI1 hP => ?_)
  obtain ⟨r, Q, hr, hQ⟩ := hm h g1 hI1 hP
  refine QP.istore (i := 5) d_L_law_2058 (by decide) (by decide) rfl ?_
  refine QP.aload_n (i := 2) d_L_law_2060 rfl rfl ?_
  refine QP.rdk (j := j) (k := 1) d_L_law_2061 d_L_law_2062 d_L_law_2064 d_L_law_2065 d_L_law_2066 rfl (by omega) hS ?_
  refine QP.callr (As := [.int (S.2.2 (j + 1))]) (q := (RX10, TX10, 15)) hI1 hr k_L_law_273 d_L_law_2067 rfl rfl (by decide) rfl rfl (by decide) (fun h2 q2 => ?_)
  obtain ⟨e1, e2, e3⟩ := hQ h2 q2
  refine QP.istore (i := 6) d_L_law_2070 (by decide) (by decide) rfl ?_
  refine QP.aload_n (i := 2) d_L_law_2072 rfl rfl ?_
  refine QP.callr (As := []) (q := (RX10, TX10, 15)) hI1 (m_thrown hI1) k_L_law_141 d_L_law_2073 rfl rfl (by decide) rfl rfl (by decide) (fun h3 q3 => ?_)
  subst q3
  refine QP.iload (i := 5) d_L_law_2076 rfl ?_
  refine QP.icmp_eq (tgt := 2083) d_L_law_2078 (by decide) (fun _ => ?_) (fun q => absurd e1 q)
  refine QP.iload (i := 5) d_L_law_2083 rfl ?_
  refine QP.if_ne (tgt := 2100) d_L_law_2085 (by decide) (fun _ => QP.goto (tgt := 2751) d_L_law_2100 (by decide) (hn _ _ _ _ _ _ hI1 e3)) (fun c0 => ?_)
  refine QP.aload_n (i := 3) d_L_law_2088 rfl rfl ?_
  refine QP.iconst (x := 0) d_L_law_2089 (by decide) ?_
  refine QP.lald (n := 1) (j := 0) d_L_law_2090 rfl (hI1.lt (by decide)) (by decide) rfl (by decide) ?_
  rw [e2 c0]
  refine QP.iload (i := 6) d_L_law_2091 rfl ?_
  refine QP.i2l d_L_law_2093 ?_
  refine QP.lcmp d_L_law_2094 ?_
  exact QP.if_eq (tgt := 2100) d_L_law_2095 (by decide) (fun _ => QP.goto (tgt := 2751) d_L_law_2100 (by decide) (hn _ _ _ _ _ _ hI1 e3)) (fun q => absurd (lg_cmp_rf _) q)
theorem lb_letterLeft {S : am_S} {n j : Nat} {x5 x6 x7 x8 : Value} {hi : am_HI} {g : am_G} (hI : am_Inv g) (hS : S.2.1 ≤ 2048) (hj : j + 3 < S.2.1) (ho : OpI M_L_letterLeft M_X10_letterLeft [.int (S.2.2 (j + 1))] hi g) (hn : LN S n j) : QP S (n + 1, 6 * (n + 1)) 2103 (lL j x5 x6 x7 x8) [] hi g := by
  obtain ⟨code, P, hc, hm⟩ := ho
  refine QP.aload_n (i := 1) d_L_law_2103 rfl rfl ?_
  refine QP.rdk (j := j) (k := 1) d_L_law_2104 d_L_law_2105 d_L_law_2107 d_L_law_2108 d_L_law_2109 rfl (by omega) hS ?_
  refine QP.aload_n (i := 3) d_L_law_2110 rfl rfl ?_
  refine QP.calll (As := [.ref 0, .int (S.2.2 (j + 1)), .ref 133]) hI hc kx_letterLeft d_L_law_2111 rfl (by decide) (fun h g1 hI1 hP => ?_)
  obtain ⟨r, Q, hr, hQ⟩ := hm h g1 hI1 hP
  refine QP.istore (i := 5) d_L_law_2114 (by decide) (by decide) rfl ?_
  refine QP.aload_n (i := 2) d_L_law_2116 rfl rfl ?_
  refine QP.rdk (j := j) (k := 1) d_L_law_2117 d_L_law_2118 d_L_law_2120 d_L_law_2121 d_L_law_2122 rfl (by omega) hS ?_
  refine QP.callr (As := [.int (S.2.2 (j + 1))]) (q := (RX10, TX10, 15)) hI1 hr k_L_law_276 d_L_law_2123 rfl rfl (by decide) rfl rfl (by decide) (fun h2 q2 => ?_)
  obtain ⟨e1, e2, e3⟩ := hQ h2 q2
  refine QP.istore (i := 6) d_L_law_2126 (by decide) (by decide) rfl ?_
  refine QP.aload_n (i := 2) d_L_law_2128 rfl rfl ?_
  refine QP.callr (As := []) (q := (RX10, TX10, 15)) hI1 (m_thrown hI1) k_L_law_141 d_L_law_2129 rfl rfl (by decide) rfl rfl (by decide) (fun h3 q3 => ?_)
  subst q3
  refine QP.iload (i := 5) d_L_law_2132 rfl ?_
  refine QP.icmp_eq (tgt := 2139) d_L_law_2134 (by decide) (fun _ => ?_) (fun q => absurd e1 q)
  refine QP.iload (i := 5) d_L_law_2139 rfl ?_
  refine QP.if_ne (tgt := 2156) d_L_law_2141 (by decide) (fun _ => QP.goto (tgt := 2751) d_L_law_2156 (by decide) (hn _ _ _ _ _ _ hI1 e3)) (fun c0 => ?_)
  refine QP.aload_n (i := 3) d_L_law_2144 rfl rfl ?_
  refine QP.iconst (x := 0) d_L_law_2145 (by decide) ?_
  refine QP.lald (n := 1) (j := 0) d_L_law_2146 rfl (hI1.lt (by decide)) (by decide) rfl (by decide) ?_
  rw [e2 c0]
  refine QP.iload (i := 6) d_L_law_2147 rfl ?_
  refine QP.i2l d_L_law_2149 ?_
  refine QP.lcmp d_L_law_2150 ?_
  exact QP.if_eq (tgt := 2156) d_L_law_2151 (by decide) (fun _ => QP.goto (tgt := 2751) d_L_law_2156 (by decide) (hn _ _ _ _ _ _ hI1 e3)) (fun q => absurd (lg_cmp_rf _) q)
theorem lb_letterBits {S : am_S} {n j : Nat} {x5 x6 x7 x8 : Value} {hi : am_HI} {g : am_G} {r : Int32} (hI : am_Inv g) (ho : OpV M_X9_letterBits M_X10_letterBits (.int r) hi g) (hn : LN S n j) : QP S (n + 1, 6 * (n + 1)) 2159 (lL j x5 x6 x7 x8) [] hi g := by
  refine QP.less (b' := (n, 6 * n)) ?_ ⟨by show n ≤ n + 1; omega, by show 6 * n ≤ 6 * (n + 1); omega⟩
  obtain ⟨P, hc, hm⟩ := ho
  refine QP.aload_n (i := 1) d_L_law_2159 rfl rfl ?_
  refine QP.callg (As := []) (q := (RX9, TX9, 7)) hI hc k_L_law_277 d_L_law_2160 rfl rfl (by decide) rfl rfl (by decide) (fun h g1 hI1 hP => ?_)
  obtain ⟨Q, hr, hQ⟩ := hm h g1 hI1 hP
  refine QP.aload_n (i := 2) d_L_law_2163 rfl rfl ?_
  refine QP.callr (As := []) (q := (RX10, TX10, 15)) hI1 hr k_L_law_280 d_L_law_2164 rfl rfl (by decide) rfl rfl (Nat.le_of_ble_eq_true rfl) (fun h2 q2 => ?_)
  exact QP.icmp_eq (tgt := 2751) d_L_law_2167 (by decide) (fun _ => hn _ _ _ _ _ _ hI1 (hQ h2 q2)) (fun q => absurd rfl q)
theorem lb_letterBit {S : am_S} {n j : Nat} {x5 x6 x7 x8 : Value} {hi : am_HI} {g : am_G} (hI : am_Inv g) (hS : S.2.1 ≤ 2048) (hj : j + 3 < S.2.1) (ho : OpB M_L_letterBit M_X10_letterBit [.int (S.2.2 (j + 1))] hi g) (hn : LN S n j) : QP S (n + 1, 6 * (n + 1)) 2172 (lL j x5 x6 x7 x8) [] hi g := by
  obtain ⟨code, P, hc, hm⟩ := ho
  refine QP.aload_n (i := 1) d_L_law_2172 rfl rfl ?_
  refine QP.rdk (j := j) (k := 1) d_L_law_2173 d_L_law_2174 d_L_law_2176 d_L_law_2177 d_L_law_2178 rfl (by omega) hS ?_
  refine QP.aload_n (i := 3) d_L_law_2179 rfl rfl ?_
  refine QP.calll (As := [.ref 0, .int (S.2.2 (j + 1)), .ref 133]) hI hc kx_letterBit d_L_law_2180 rfl (by decide) (fun h g1 hI1 hP => ?_)
  obtain ⟨r, Q, hr, hQ⟩ := hm h g1 hI1 hP
  refine QP.istore (i := 5) d_L_law_2183 (by decide) (by decide) rfl ?_
  refine QP.aload_n (i := 2) d_L_law_2185 rfl rfl ?_
  refine QP.rdk (j := j) (k := 1) d_L_law_2186 d_L_law_2187 d_L_law_2189 d_L_law_2190 d_L_law_2191 rfl (by omega) hS ?_
  refine QP.callr (As := [.int (S.2.2 (j + 1))]) (q := (RX10, TX10, 15)) hI1 hr k_L_law_283 d_L_law_2192 rfl rfl (by decide) rfl rfl (by decide) (fun h2 q2 => ?_)
  obtain ⟨e1, e2, e3⟩ := hQ h2 q2
  refine QP.istore (i := 6) d_L_law_2195 (by decide) (by decide) rfl ?_
  refine QP.aload_n (i := 2) d_L_law_2197 rfl rfl ?_
  refine QP.callr (As := []) (q := (RX10, TX10, 15)) hI1 (m_thrown hI1) k_L_law_141 d_L_law_2198 rfl rfl (by decide) rfl rfl (by decide) (fun h3 q3 => ?_)
  subst q3
  refine QP.iload (i := 5) d_L_law_2201 rfl ?_
  refine QP.icmp_eq (tgt := 2208) d_L_law_2203 (by decide) (fun _ => ?_) (fun q => absurd e1 q)
  refine QP.iload (i := 5) d_L_law_2208 rfl ?_
  refine QP.if_ne (tgt := 2232) d_L_law_2210 (by decide) (fun _ => QP.goto (tgt := 2751) d_L_law_2232 (by decide) (hn _ _ _ _ _ _ hI1 e3)) (fun c0 => ?_)
  refine QP.aload_n (i := 3) d_L_law_2213 rfl rfl ?_
  refine QP.iconst (x := 0) d_L_law_2214 (by decide) ?_
  refine QP.lald (n := 1) (j := 0) d_L_law_2215 rfl (hI1.lt (by decide)) (by decide) rfl (by decide) ?_
  rw [e2 c0]
  refine QP.iload (i := 6) d_L_law_2216 rfl ?_
  cases r
  · refine QP.if_eq (tgt := 2225) d_L_law_2218 (by decide) (fun _ => ?_) (fun q => absurd rfl q)
    refine QP.lconst (x := 0) d_L_law_2225 (by decide) ?_
    refine QP.lcmp d_L_law_2226 ?_
    exact QP.if_eq (tgt := 2232) d_L_law_2227 (by decide) (fun _ => QP.goto (tgt := 2751) d_L_law_2232 (by decide) (hn _ _ _ _ _ _ hI1 e3)) (fun q => absurd (lg_cmp_rf _) q)
  · refine QP.if_eq (tgt := 2225) d_L_law_2218 (by decide) (fun q => absurd q (by decide)) (fun _ => ?_)
    refine QP.lconst (x := 1) d_L_law_2221 (by decide) ?_
    refine QP.goto (tgt := 2226) d_L_law_2222 (by decide) ?_
    refine QP.lcmp d_L_law_2226 ?_
    exact QP.if_eq (tgt := 2232) d_L_law_2227 (by decide) (fun _ => QP.goto (tgt := 2751) d_L_law_2232 (by decide) (hn _ _ _ _ _ _ hI1 e3)) (fun q => absurd (lg_cmp_rf _) q)
theorem lb_heard {S : am_S} {n j : Nat} {x5 x6 x7 x8 : Value} {hi : am_HI} {g : am_G} (hI : am_Inv g) (hS : S.2.1 ≤ 2048) (hj : j + 3 < S.2.1) (ho : OpI M_L_heard M_X10_heard [.int (S.2.2 (j + 1))] hi g) (hn : LN S n j) : QP S (n + 1, 6 * (n + 1)) 2235 (lL j x5 x6 x7 x8) [] hi g := by
  obtain ⟨code, P, hc, hm⟩ := ho
  refine QP.aload_n (i := 1) d_L_law_2235 rfl rfl ?_
  refine QP.rdk (j := j) (k := 1) d_L_law_2236 d_L_law_2237 d_L_law_2239 d_L_law_2240 d_L_law_2241 rfl (by omega) hS ?_
  refine QP.aload_n (i := 3) d_L_law_2242 rfl rfl ?_
  refine QP.calll (As := [.ref 0, .int (S.2.2 (j + 1)), .ref 133]) hI hc kx_heard d_L_law_2243 rfl (by decide) (fun h g1 hI1 hP => ?_)
  obtain ⟨r, Q, hr, hQ⟩ := hm h g1 hI1 hP
  refine QP.istore (i := 5) d_L_law_2246 (by decide) (by decide) rfl ?_
  refine QP.aload_n (i := 2) d_L_law_2248 rfl rfl ?_
  refine QP.rdk (j := j) (k := 1) d_L_law_2249 d_L_law_2250 d_L_law_2252 d_L_law_2253 d_L_law_2254 rfl (by omega) hS ?_
  refine QP.callr (As := [.int (S.2.2 (j + 1))]) (q := (RX10, TX10, 15)) hI1 hr k_L_law_286 d_L_law_2255 rfl rfl (by decide) rfl rfl (by decide) (fun h2 q2 => ?_)
  obtain ⟨e1, e2, e3⟩ := hQ h2 q2
  refine QP.istore (i := 6) d_L_law_2258 (by decide) (by decide) rfl ?_
  refine QP.aload_n (i := 2) d_L_law_2260 rfl rfl ?_
  refine QP.callr (As := []) (q := (RX10, TX10, 15)) hI1 (m_thrown hI1) k_L_law_141 d_L_law_2261 rfl rfl (by decide) rfl rfl (by decide) (fun h3 q3 => ?_)
  subst q3
  refine QP.iload (i := 5) d_L_law_2264 rfl ?_
  refine QP.icmp_eq (tgt := 2271) d_L_law_2266 (by decide) (fun _ => ?_) (fun q => absurd e1 q)
  refine QP.iload (i := 5) d_L_law_2271 rfl ?_
  refine QP.if_ne (tgt := 2288) d_L_law_2273 (by decide) (fun _ => QP.goto (tgt := 2751) d_L_law_2288 (by decide) (hn _ _ _ _ _ _ hI1 e3)) (fun c0 => ?_)
  refine QP.aload_n (i := 3) d_L_law_2276 rfl rfl ?_
  refine QP.iconst (x := 0) d_L_law_2277 (by decide) ?_
  refine QP.lald (n := 1) (j := 0) d_L_law_2278 rfl (hI1.lt (by decide)) (by decide) rfl (by decide) ?_
  rw [e2 c0]
  refine QP.iload (i := 6) d_L_law_2279 rfl ?_
  refine QP.i2l d_L_law_2281 ?_
  refine QP.lcmp d_L_law_2282 ?_
  exact QP.if_eq (tgt := 2288) d_L_law_2283 (by decide) (fun _ => QP.goto (tgt := 2751) d_L_law_2288 (by decide) (hn _ _ _ _ _ _ hI1 e3)) (fun q => absurd (lg_cmp_rf _) q)
theorem lb_heardByBits {S : am_S} {n j : Nat} {x5 x6 x7 x8 : Value} {hi : am_HI} {g : am_G} (hI : am_Inv g) (hS : S.2.1 ≤ 2048) (hj : j + 3 < S.2.1) (ho : OpI M_L_heardByBits M_X10_heardByBits [.int (S.2.2 (j + 1))] hi g) (hn : LN S n j) : QP S (n + 1, 6 * (n + 1)) 2291 (lL j x5 x6 x7 x8) [] hi g := by
  obtain ⟨code, P, hc, hm⟩ := ho
  refine QP.aload_n (i := 1) d_L_law_2291 rfl rfl ?_
  refine QP.rdk (j := j) (k := 1) d_L_law_2292 d_L_law_2293 d_L_law_2295 d_L_law_2296 d_L_law_2297 rfl (by omega) hS ?_
  refine QP.aload_n (i := 3) d_L_law_2298 rfl rfl ?_
  refine QP.calll (As := [.ref 0, .int (S.2.2 (j + 1)), .ref 133]) hI hc kx_heardByBits d_L_law_2299 rfl (by decide) (fun h g1 hI1 hP => ?_)
  obtain ⟨r, Q, hr, hQ⟩ := hm h g1 hI1 hP
  refine QP.istore (i := 5) d_L_law_2302 (by decide) (by decide) rfl ?_
  refine QP.aload_n (i := 2) d_L_law_2304 rfl rfl ?_
  refine QP.rdk (j := j) (k := 1) d_L_law_2305 d_L_law_2306 d_L_law_2308 d_L_law_2309 d_L_law_2310 rfl (by omega) hS ?_
  refine QP.callr (As := [.int (S.2.2 (j + 1))]) (q := (RX10, TX10, 15)) hI1 hr k_L_law_289 d_L_law_2311 rfl rfl (by decide) rfl rfl (by decide) (fun h2 q2 => ?_)
  obtain ⟨e1, e2, e3⟩ := hQ h2 q2
  refine QP.istore (i := 6) d_L_law_2314 (by decide) (by decide) rfl ?_
  refine QP.aload_n (i := 2) d_L_law_2316 rfl rfl ?_
  refine QP.callr (As := []) (q := (RX10, TX10, 15)) hI1 (m_thrown hI1) k_L_law_141 d_L_law_2317 rfl rfl (by decide) rfl rfl (by decide) (fun h3 q3 => ?_)
  subst q3
  refine QP.iload (i := 5) d_L_law_2320 rfl ?_
  refine QP.icmp_eq (tgt := 2327) d_L_law_2322 (by decide) (fun _ => ?_) (fun q => absurd e1 q)
  refine QP.iload (i := 5) d_L_law_2327 rfl ?_
  refine QP.if_ne (tgt := 2344) d_L_law_2329 (by decide) (fun _ => QP.goto (tgt := 2751) d_L_law_2344 (by decide) (hn _ _ _ _ _ _ hI1 e3)) (fun c0 => ?_)
  refine QP.aload_n (i := 3) d_L_law_2332 rfl rfl ?_
  refine QP.iconst (x := 0) d_L_law_2333 (by decide) ?_
  refine QP.lald (n := 1) (j := 0) d_L_law_2334 rfl (hI1.lt (by decide)) (by decide) rfl (by decide) ?_
  rw [e2 c0]
  refine QP.iload (i := 6) d_L_law_2335 rfl ?_
  refine QP.i2l d_L_law_2337 ?_
  refine QP.lcmp d_L_law_2338 ?_
  exact QP.if_eq (tgt := 2344) d_L_law_2339 (by decide) (fun _ => QP.goto (tgt := 2751) d_L_law_2344 (by decide) (hn _ _ _ _ _ _ hI1 e3)) (fun q => absurd (lg_cmp_rf _) q)
theorem lb_unlike {S : am_S} {n j : Nat} {x5 x6 x7 x8 : Value} {hi : am_HI} {g : am_G} {r : Int32} (hI : am_Inv g) (ho : OpV M_X9_unlike M_X10_unlike (.int r) hi g) (hn : LN S n j) : QP S (n + 1, 6 * (n + 1)) 2347 (lL j x5 x6 x7 x8) [] hi g := by
  refine QP.less (b' := (n, 6 * n)) ?_ ⟨by show n ≤ n + 1; omega, by show 6 * n ≤ 6 * (n + 1); omega⟩
  obtain ⟨P, hc, hm⟩ := ho
  refine QP.aload_n (i := 1) d_L_law_2347 rfl rfl ?_
  refine QP.callg (As := []) (q := (RX9, TX9, 7)) hI hc k_L_law_290 d_L_law_2348 rfl rfl (by decide) rfl rfl (by decide) (fun h g1 hI1 hP => ?_)
  obtain ⟨Q, hr, hQ⟩ := hm h g1 hI1 hP
  refine QP.aload_n (i := 2) d_L_law_2351 rfl rfl ?_
  refine QP.callr (As := []) (q := (RX10, TX10, 15)) hI1 hr k_L_law_293 d_L_law_2352 rfl rfl (by decide) rfl rfl (Nat.le_of_ble_eq_true rfl) (fun h2 q2 => ?_)
  exact QP.icmp_eq (tgt := 2751) d_L_law_2355 (by decide) (fun _ => hn _ _ _ _ _ _ hI1 (hQ h2 q2)) (fun q => absurd rfl q)
theorem lb_firstUnlike {S : am_S} {n j : Nat} {x5 x6 x7 x8 : Value} {hi : am_HI} {g : am_G} {r : Int32} (hI : am_Inv g) (ho : OpV M_X9_firstUnlike M_X10_firstUnlike (.int r) hi g) (hn : LN S n j) : QP S (n + 1, 6 * (n + 1)) 2360 (lL j x5 x6 x7 x8) [] hi g := by
  refine QP.less (b' := (n, 6 * n)) ?_ ⟨by show n ≤ n + 1; omega, by show 6 * n ≤ 6 * (n + 1); omega⟩
  obtain ⟨P, hc, hm⟩ := ho
  refine QP.aload_n (i := 1) d_L_law_2360 rfl rfl ?_
  refine QP.callg (As := []) (q := (RX9, TX9, 7)) hI hc k_L_law_294 d_L_law_2361 rfl rfl (by decide) rfl rfl (by decide) (fun h g1 hI1 hP => ?_)
  obtain ⟨Q, hr, hQ⟩ := hm h g1 hI1 hP
  refine QP.aload_n (i := 2) d_L_law_2364 rfl rfl ?_
  refine QP.callr (As := []) (q := (RX10, TX10, 15)) hI1 hr k_L_law_297 d_L_law_2365 rfl rfl (by decide) rfl rfl (Nat.le_of_ble_eq_true rfl) (fun h2 q2 => ?_)
  exact QP.icmp_eq (tgt := 2751) d_L_law_2368 (by decide) (fun _ => hn _ _ _ _ _ _ hI1 (hQ h2 q2)) (fun q => absurd rfl q)
theorem lb_harm {S : am_S} {n j : Nat} {x5 x6 x7 x8 : Value} {hi : am_HI} {g : am_G} (hI : am_Inv g) (hS : S.2.1 ≤ 2048) (hj : j + 3 < S.2.1) (ho : OpI M_L_harm M_X10_harm [.int (S.2.2 (j + 1))] hi g) (hn : LN S n j) : QP S (n + 1, 6 * (n + 1)) 2373 (lL j x5 x6 x7 x8) [] hi g := by
  obtain ⟨code, P, hc, hm⟩ := ho
  refine QP.aload_n (i := 1) d_L_law_2373 rfl rfl ?_
  refine QP.rdk (j := j) (k := 1) d_L_law_2374 d_L_law_2375 d_L_law_2377 d_L_law_2378 d_L_law_2379 rfl (by omega) hS ?_
  refine QP.aload_n (i := 3) d_L_law_2380 rfl rfl ?_
  refine QP.calll (As := [.ref 0, .int (S.2.2 (j + 1)), .ref 133]) hI hc kx_harm d_L_law_2381 rfl (by decide) (fun h g1 hI1 hP => ?_)
  obtain ⟨r, Q, hr, hQ⟩ := hm h g1 hI1 hP
  refine QP.istore (i := 5) d_L_law_2384 (by decide) (by decide) rfl ?_
  refine QP.aload_n (i := 2) d_L_law_2386 rfl rfl ?_
  refine QP.rdk (j := j) (k := 1) d_L_law_2387 d_L_law_2388 d_L_law_2390 d_L_law_2391 d_L_law_2392 rfl (by omega) hS ?_
  refine QP.callr (As := [.int (S.2.2 (j + 1))]) (q := (RX10, TX10, 15)) hI1 hr k_L_law_300 d_L_law_2393 rfl rfl (by decide) rfl rfl (by decide) (fun h2 q2 => ?_)
  obtain ⟨e1, e2, e3⟩ := hQ h2 q2
  refine QP.istore (i := 6) d_L_law_2396 (by decide) (by decide) rfl ?_
  refine QP.aload_n (i := 2) d_L_law_2398 rfl rfl ?_
  refine QP.callr (As := []) (q := (RX10, TX10, 15)) hI1 (m_thrown hI1) k_L_law_141 d_L_law_2399 rfl rfl (by decide) rfl rfl (by decide) (fun h3 q3 => ?_)
  subst q3
  refine QP.iload (i := 5) d_L_law_2402 rfl ?_
  refine QP.icmp_eq (tgt := 2409) d_L_law_2404 (by decide) (fun _ => ?_) (fun q => absurd e1 q)
  refine QP.iload (i := 5) d_L_law_2409 rfl ?_
  refine QP.if_ne (tgt := 2426) d_L_law_2411 (by decide) (fun _ => QP.goto (tgt := 2751) d_L_law_2426 (by decide) (hn _ _ _ _ _ _ hI1 e3)) (fun c0 => ?_)
  refine QP.aload_n (i := 3) d_L_law_2414 rfl rfl ?_
  refine QP.iconst (x := 0) d_L_law_2415 (by decide) ?_
  refine QP.lald (n := 1) (j := 0) d_L_law_2416 rfl (hI1.lt (by decide)) (by decide) rfl (by decide) ?_
  rw [e2 c0]
  refine QP.iload (i := 6) d_L_law_2417 rfl ?_
  refine QP.i2l d_L_law_2419 ?_
  refine QP.lcmp d_L_law_2420 ?_
  exact QP.if_eq (tgt := 2426) d_L_law_2421 (by decide) (fun _ => QP.goto (tgt := 2751) d_L_law_2426 (by decide) (hn _ _ _ _ _ _ hI1 e3)) (fun q => absurd (lg_cmp_rf _) q)
theorem lb_worst {S : am_S} {n j : Nat} {x5 x6 x7 x8 : Value} {hi : am_HI} {g : am_G} {r : Int32} (hI : am_Inv g) (ho : OpV M_X9_worst M_X10_worst (.int r) hi g) (hn : LN S n j) : QP S (n + 1, 6 * (n + 1)) 2429 (lL j x5 x6 x7 x8) [] hi g := by
  refine QP.less (b' := (n, 6 * n)) ?_ ⟨by show n ≤ n + 1; omega, by show 6 * n ≤ 6 * (n + 1); omega⟩
  obtain ⟨P, hc, hm⟩ := ho
  refine QP.aload_n (i := 1) d_L_law_2429 rfl rfl ?_
  refine QP.callg (As := []) (q := (RX9, TX9, 7)) hI hc k_L_law_301 d_L_law_2430 rfl rfl (by decide) rfl rfl (by decide) (fun h g1 hI1 hP => ?_)
  obtain ⟨Q, hr, hQ⟩ := hm h g1 hI1 hP
  refine QP.aload_n (i := 2) d_L_law_2433 rfl rfl ?_
  refine QP.callr (As := []) (q := (RX10, TX10, 15)) hI1 hr k_L_law_304 d_L_law_2434 rfl rfl (by decide) rfl rfl (Nat.le_of_ble_eq_true rfl) (fun h2 q2 => ?_)
  exact QP.icmp_eq (tgt := 2751) d_L_law_2437 (by decide) (fun _ => hn _ _ _ _ _ _ hI1 (hQ h2 q2)) (fun q => absurd rfl q)
theorem lb_sent {S : am_S} {n j : Nat} {x5 x6 x7 x8 : Value} {hi : am_HI} {g : am_G} {r : Int32} (hI : am_Inv g) (ho : OpV M_X9_sent M_X10_sent (.int r) hi g) (hn : LN S n j) : QP S (n + 1, 6 * (n + 1)) 2442 (lL j x5 x6 x7 x8) [] hi g := by
  refine QP.less (b' := (n, 6 * n)) ?_ ⟨by show n ≤ n + 1; omega, by show 6 * n ≤ 6 * (n + 1); omega⟩
  obtain ⟨P, hc, hm⟩ := ho
  refine QP.aload_n (i := 1) d_L_law_2442 rfl rfl ?_
  refine QP.callg (As := []) (q := (RX9, TX9, 7)) hI hc k_L_law_305 d_L_law_2443 rfl rfl (by decide) rfl rfl (by decide) (fun h g1 hI1 hP => ?_)
  obtain ⟨Q, hr, hQ⟩ := hm h g1 hI1 hP
  refine QP.aload_n (i := 2) d_L_law_2446 rfl rfl ?_
  refine QP.callr (As := []) (q := (RX10, TX10, 15)) hI1 hr k_L_law_308 d_L_law_2447 rfl rfl (by decide) rfl rfl (Nat.le_of_ble_eq_true rfl) (fun h2 q2 => ?_)
  exact QP.icmp_eq (tgt := 2751) d_L_law_2450 (by decide) (fun _ => hn _ _ _ _ _ _ hI1 (hQ h2 q2)) (fun q => absurd rfl q)
theorem lb_keep {S : am_S} {n j : Nat} {x5 x6 x7 x8 : Value} {hi : am_HI} {g : am_G} (hI : am_Inv g) (hS : S.2.1 ≤ 2048) (hj : j + 3 < S.2.1) (ho : OpI M_L_keep M_X10_keep [.int (S.2.2 (j + 1))] hi g) (hn : LN S n j) : QP S (n + 1, 6 * (n + 1)) 2455 (lL j x5 x6 x7 x8) [] hi g := by
  obtain ⟨code, P, hc, hm⟩ := ho
  refine QP.aload_n (i := 1) d_L_law_2455 rfl rfl ?_
  refine QP.rdk (j := j) (k := 1) d_L_law_2456 d_L_law_2457 d_L_law_2459 d_L_law_2460 d_L_law_2461 rfl (by omega) hS ?_
  refine QP.aload_n (i := 3) d_L_law_2462 rfl rfl ?_
  refine QP.calll (As := [.ref 0, .int (S.2.2 (j + 1)), .ref 133]) hI hc kx_keep d_L_law_2463 rfl (by decide) (fun h g1 hI1 hP => ?_)
  obtain ⟨r, Q, hr, hQ⟩ := hm h g1 hI1 hP
  refine QP.istore (i := 5) d_L_law_2466 (by decide) (by decide) rfl ?_
  refine QP.aload_n (i := 2) d_L_law_2468 rfl rfl ?_
  refine QP.rdk (j := j) (k := 1) d_L_law_2469 d_L_law_2470 d_L_law_2472 d_L_law_2473 d_L_law_2474 rfl (by omega) hS ?_
  refine QP.callr (As := [.int (S.2.2 (j + 1))]) (q := (RX10, TX10, 15)) hI1 hr k_L_law_311 d_L_law_2475 rfl rfl (by decide) rfl rfl (by decide) (fun h2 q2 => ?_)
  obtain ⟨e1, e2, e3⟩ := hQ h2 q2
  refine QP.istore (i := 6) d_L_law_2478 (by decide) (by decide) rfl ?_
  refine QP.aload_n (i := 2) d_L_law_2480 rfl rfl ?_
  refine QP.callr (As := []) (q := (RX10, TX10, 15)) hI1 (m_thrown hI1) k_L_law_141 d_L_law_2481 rfl rfl (by decide) rfl rfl (by decide) (fun h3 q3 => ?_)
  subst q3
  refine QP.iload (i := 5) d_L_law_2484 rfl ?_
  refine QP.icmp_eq (tgt := 2491) d_L_law_2486 (by decide) (fun _ => ?_) (fun q => absurd e1 q)
  refine QP.iload (i := 5) d_L_law_2491 rfl ?_
  refine QP.if_ne (tgt := 2508) d_L_law_2493 (by decide) (fun _ => QP.goto (tgt := 2751) d_L_law_2508 (by decide) (hn _ _ _ _ _ _ hI1 e3)) (fun c0 => ?_)
  refine QP.aload_n (i := 3) d_L_law_2496 rfl rfl ?_
  refine QP.iconst (x := 0) d_L_law_2497 (by decide) ?_
  refine QP.lald (n := 1) (j := 0) d_L_law_2498 rfl (hI1.lt (by decide)) (by decide) rfl (by decide) ?_
  rw [e2 c0]
  refine QP.iload (i := 6) d_L_law_2499 rfl ?_
  refine QP.i2l d_L_law_2501 ?_
  refine QP.lcmp d_L_law_2502 ?_
  exact QP.if_eq (tgt := 2508) d_L_law_2503 (by decide) (fun _ => QP.goto (tgt := 2751) d_L_law_2508 (by decide) (hn _ _ _ _ _ _ hI1 e3)) (fun q => absurd (lg_cmp_rf _) q)
theorem lb_goBack {S : am_S} {n j : Nat} {x5 x6 x7 x8 : Value} {hi : am_HI} {g : am_G} (hI : am_Inv g) (hS : S.2.1 ≤ 2048) (hj : j + 3 < S.2.1) (ho : OpI M_L_goBack M_X10_goBack [.int (S.2.2 (j + 1))] hi g) (hn : LN S n j) : QP S (n + 1, 6 * (n + 1)) 2511 (lL j x5 x6 x7 x8) [] hi g := by
  obtain ⟨code, P, hc, hm⟩ := ho
  refine QP.aload_n (i := 1) d_L_law_2511 rfl rfl ?_
  refine QP.rdk (j := j) (k := 1) d_L_law_2512 d_L_law_2513 d_L_law_2515 d_L_law_2516 d_L_law_2517 rfl (by omega) hS ?_
  refine QP.aload_n (i := 3) d_L_law_2518 rfl rfl ?_
  refine QP.calll (As := [.ref 0, .int (S.2.2 (j + 1)), .ref 133]) hI hc kx_goBack d_L_law_2519 rfl (by decide) (fun h g1 hI1 hP => ?_)
  obtain ⟨r, Q, hr, hQ⟩ := hm h g1 hI1 hP
  refine QP.istore (i := 5) d_L_law_2522 (by decide) (by decide) rfl ?_
  refine QP.aload_n (i := 2) d_L_law_2524 rfl rfl ?_
  refine QP.rdk (j := j) (k := 1) d_L_law_2525 d_L_law_2526 d_L_law_2528 d_L_law_2529 d_L_law_2530 rfl (by omega) hS ?_
  refine QP.callr (As := [.int (S.2.2 (j + 1))]) (q := (RX10, TX10, 15)) hI1 hr k_L_law_314 d_L_law_2531 rfl rfl (by decide) rfl rfl (by decide) (fun h2 q2 => ?_)
  obtain ⟨e1, e2, e3⟩ := hQ h2 q2
  refine QP.istore (i := 6) d_L_law_2534 (by decide) (by decide) rfl ?_
  refine QP.aload_n (i := 2) d_L_law_2536 rfl rfl ?_
  refine QP.callr (As := []) (q := (RX10, TX10, 15)) hI1 (m_thrown hI1) k_L_law_141 d_L_law_2537 rfl rfl (by decide) rfl rfl (by decide) (fun h3 q3 => ?_)
  subst q3
  refine QP.iload (i := 5) d_L_law_2540 rfl ?_
  refine QP.icmp_eq (tgt := 2547) d_L_law_2542 (by decide) (fun _ => ?_) (fun q => absurd e1 q)
  refine QP.iload (i := 5) d_L_law_2547 rfl ?_
  refine QP.if_ne (tgt := 2564) d_L_law_2549 (by decide) (fun _ => QP.goto (tgt := 2751) d_L_law_2564 (by decide) (hn _ _ _ _ _ _ hI1 e3)) (fun c0 => ?_)
  refine QP.aload_n (i := 3) d_L_law_2552 rfl rfl ?_
  refine QP.iconst (x := 0) d_L_law_2553 (by decide) ?_
  refine QP.lald (n := 1) (j := 0) d_L_law_2554 rfl (hI1.lt (by decide)) (by decide) rfl (by decide) ?_
  rw [e2 c0]
  refine QP.iload (i := 6) d_L_law_2555 rfl ?_
  refine QP.i2l d_L_law_2557 ?_
  refine QP.lcmp d_L_law_2558 ?_
  exact QP.if_eq (tgt := 2564) d_L_law_2559 (by decide) (fun _ => QP.goto (tgt := 2751) d_L_law_2564 (by decide) (hn _ _ _ _ _ _ hI1 e3)) (fun q => absurd (lg_cmp_rf _) q)
theorem lb_append {S : am_S} {n j : Nat} {x5 x6 x7 x8 : Value} {hi : am_HI} {g : am_G} (hI : am_Inv g) (hS : S.2.1 ≤ 2048) (hj : j + 3 < S.2.1) (ho : OpI M_L_append M_X10_append [.int (S.2.2 (j + 1))] hi g) (hn : LN S n j) : QP S (n + 1, 6 * (n + 1)) 2567 (lL j x5 x6 x7 x8) [] hi g := by
  obtain ⟨code, P, hc, hm⟩ := ho
  refine QP.aload_n (i := 1) d_L_law_2567 rfl rfl ?_
  refine QP.rdk (j := j) (k := 1) d_L_law_2568 d_L_law_2569 d_L_law_2571 d_L_law_2572 d_L_law_2573 rfl (by omega) hS ?_
  refine QP.aload_n (i := 3) d_L_law_2574 rfl rfl ?_
  refine QP.calll (As := [.ref 0, .int (S.2.2 (j + 1)), .ref 133]) hI hc kx_append d_L_law_2575 rfl (by decide) (fun h g1 hI1 hP => ?_)
  obtain ⟨r, Q, hr, hQ⟩ := hm h g1 hI1 hP
  refine QP.istore (i := 5) d_L_law_2578 (by decide) (by decide) rfl ?_
  refine QP.aload_n (i := 2) d_L_law_2580 rfl rfl ?_
  refine QP.rdk (j := j) (k := 1) d_L_law_2581 d_L_law_2582 d_L_law_2584 d_L_law_2585 d_L_law_2586 rfl (by omega) hS ?_
  refine QP.callr (As := [.int (S.2.2 (j + 1))]) (q := (RX10, TX10, 15)) hI1 hr k_L_law_317 d_L_law_2587 rfl rfl (by decide) rfl rfl (by decide) (fun h2 q2 => ?_)
  obtain ⟨e1, e2, e3⟩ := hQ h2 q2
  refine QP.istore (i := 6) d_L_law_2590 (by decide) (by decide) rfl ?_
  refine QP.aload_n (i := 2) d_L_law_2592 rfl rfl ?_
  refine QP.callr (As := []) (q := (RX10, TX10, 15)) hI1 (m_thrown hI1) k_L_law_141 d_L_law_2593 rfl rfl (by decide) rfl rfl (by decide) (fun h3 q3 => ?_)
  subst q3
  refine QP.iload (i := 5) d_L_law_2596 rfl ?_
  refine QP.icmp_eq (tgt := 2603) d_L_law_2598 (by decide) (fun _ => ?_) (fun q => absurd e1 q)
  refine QP.iload (i := 5) d_L_law_2603 rfl ?_
  refine QP.if_ne (tgt := 2620) d_L_law_2605 (by decide) (fun _ => QP.goto (tgt := 2751) d_L_law_2620 (by decide) (hn _ _ _ _ _ _ hI1 e3)) (fun c0 => ?_)
  refine QP.aload_n (i := 3) d_L_law_2608 rfl rfl ?_
  refine QP.iconst (x := 0) d_L_law_2609 (by decide) ?_
  refine QP.lald (n := 1) (j := 0) d_L_law_2610 rfl (hI1.lt (by decide)) (by decide) rfl (by decide) ?_
  rw [e2 c0]
  refine QP.iload (i := 6) d_L_law_2611 rfl ?_
  refine QP.i2l d_L_law_2613 ?_
  refine QP.lcmp d_L_law_2614 ?_
  exact QP.if_eq (tgt := 2620) d_L_law_2615 (by decide) (fun _ => QP.goto (tgt := 2751) d_L_law_2620 (by decide) (hn _ _ _ _ _ _ hI1 e3)) (fun q => absurd (lg_cmp_rf _) q)
theorem lb_clearText {S : am_S} {n j : Nat} {x5 x6 x7 x8 : Value} {hi : am_HI} {g : am_G} {r : Int32} (hI : am_Inv g) (ho : OpV M_X9_clearText M_X10_clearText (.int r) hi g) (hn : LN S n j) : QP S (n + 1, 6 * (n + 1)) 2623 (lL j x5 x6 x7 x8) [] hi g := by
  refine QP.less (b' := (n, 6 * n)) ?_ ⟨by show n ≤ n + 1; omega, by show 6 * n ≤ 6 * (n + 1); omega⟩
  obtain ⟨P, hc, hm⟩ := ho
  refine QP.aload_n (i := 1) d_L_law_2623 rfl rfl ?_
  refine QP.callg (As := []) (q := (RX9, TX9, 7)) hI hc k_L_law_318 d_L_law_2624 rfl rfl (by decide) rfl rfl (by decide) (fun h g1 hI1 hP => ?_)
  obtain ⟨Q, hr, hQ⟩ := hm h g1 hI1 hP
  refine QP.aload_n (i := 2) d_L_law_2627 rfl rfl ?_
  refine QP.callr (As := []) (q := (RX10, TX10, 15)) hI1 hr k_L_law_321 d_L_law_2628 rfl rfl (by decide) rfl rfl (Nat.le_of_ble_eq_true rfl) (fun h2 q2 => ?_)
  exact QP.icmp_eq (tgt := 2751) d_L_law_2631 (by decide) (fun _ => hn _ _ _ _ _ _ hI1 (hQ h2 q2)) (fun q => absurd rfl q)
theorem lb_firstError {S : am_S} {n j : Nat} {x5 x6 x7 x8 : Value} {hi : am_HI} {g : am_G} {r : Int32} (hI : am_Inv g) (ho : OpV M_X9_firstError M_X10_firstError (.int r) hi g) (hn : LN S n j) : QP S (n + 1, 6 * (n + 1)) 2636 (lL j x5 x6 x7 x8) [] hi g := by
  refine QP.less (b' := (n, 6 * n)) ?_ ⟨by show n ≤ n + 1; omega, by show 6 * n ≤ 6 * (n + 1); omega⟩
  obtain ⟨P, hc, hm⟩ := ho
  refine QP.aload_n (i := 1) d_L_law_2636 rfl rfl ?_
  refine QP.callg (As := []) (q := (RX9, TX9, 7)) hI hc k_L_law_322 d_L_law_2637 rfl rfl (by decide) rfl rfl (by decide) (fun h g1 hI1 hP => ?_)
  obtain ⟨Q, hr, hQ⟩ := hm h g1 hI1 hP
  refine QP.aload_n (i := 2) d_L_law_2640 rfl rfl ?_
  refine QP.callr (As := []) (q := (RX10, TX10, 15)) hI1 hr k_L_law_325 d_L_law_2641 rfl rfl (by decide) rfl rfl (Nat.le_of_ble_eq_true rfl) (fun h2 q2 => ?_)
  exact QP.icmp_eq (tgt := 2751) d_L_law_2644 (by decide) (fun _ => hn _ _ _ _ _ _ hI1 (hQ h2 q2)) (fun q => absurd rfl q)
theorem lb_doWorks {S : am_S} {n j : Nat} {x5 x6 x7 x8 : Value} {hi : am_HI} {g : am_G} (hI : am_Inv g) (hS : S.2.1 ≤ 2048) (hj : j + 3 < S.2.1) (ho : OpI M_L_doWorks M_X10_doWorks [] hi g) (hn : LN S n j) : QP S (n + 1, 6 * (n + 1)) 2649 (lL j x5 x6 x7 x8) [] hi g := by
  obtain ⟨code, P, hc, hm⟩ := ho
  refine QP.aload_n (i := 1) d_L_law_2649 rfl rfl ?_
  refine QP.aload_n (i := 3) d_L_law_2650 rfl rfl ?_
  refine QP.calll (As := [.ref 0, .ref 133]) hI hc kx_doWorks d_L_law_2651 rfl (by decide) (fun h g1 hI1 hP => ?_)
  obtain ⟨r, Q, hr, hQ⟩ := hm h g1 hI1 hP
  refine QP.istore (i := 5) d_L_law_2654 (by decide) (by decide) rfl ?_
  refine QP.aload_n (i := 2) d_L_law_2656 rfl rfl ?_
  refine QP.callr (As := []) (q := (RX10, TX10, 15)) hI1 hr k_L_law_328 d_L_law_2657 rfl rfl (by decide) rfl rfl (by decide) (fun h2 q2 => ?_)
  obtain ⟨e1, e2, e3⟩ := hQ h2 q2
  refine QP.istore (i := 6) d_L_law_2660 (by decide) (by decide) rfl ?_
  refine QP.aload_n (i := 2) d_L_law_2662 rfl rfl ?_
  refine QP.callr (As := []) (q := (RX10, TX10, 15)) hI1 (m_thrown hI1) k_L_law_141 d_L_law_2663 rfl rfl (by decide) rfl rfl (by decide) (fun h3 q3 => ?_)
  subst q3
  refine QP.iload (i := 5) d_L_law_2666 rfl ?_
  refine QP.icmp_eq (tgt := 2673) d_L_law_2668 (by decide) (fun _ => ?_) (fun q => absurd e1 q)
  refine QP.iload (i := 5) d_L_law_2673 rfl ?_
  refine QP.if_ne (tgt := 2690) d_L_law_2675 (by decide) (fun _ => QP.goto (tgt := 2751) d_L_law_2690 (by decide) (hn _ _ _ _ _ _ hI1 e3)) (fun c0 => ?_)
  refine QP.aload_n (i := 3) d_L_law_2678 rfl rfl ?_
  refine QP.iconst (x := 0) d_L_law_2679 (by decide) ?_
  refine QP.lald (n := 1) (j := 0) d_L_law_2680 rfl (hI1.lt (by decide)) (by decide) rfl (by decide) ?_
  rw [e2 c0]
  refine QP.iload (i := 6) d_L_law_2681 rfl ?_
  refine QP.i2l d_L_law_2683 ?_
  refine QP.lcmp d_L_law_2684 ?_
  exact QP.if_eq (tgt := 2690) d_L_law_2685 (by decide) (fun _ => QP.goto (tgt := 2751) d_L_law_2690 (by decide) (hn _ _ _ _ _ _ hI1 e3)) (fun q => absurd (lg_cmp_rf _) q)
theorem lb_undo {S : am_S} {n j : Nat} {x5 x6 x7 x8 : Value} {hi : am_HI} {g : am_G} (hI : am_Inv g) (hS : S.2.1 ≤ 2048) (hj : j + 3 < S.2.1) (ho : OpI M_L_undo M_X10_undo [] hi g) (hn : LN S n j) : QP S (n + 1, 6 * (n + 1)) 2693 (lL j x5 x6 x7 x8) [] hi g := by
  obtain ⟨code, P, hc, hm⟩ := ho
  refine QP.aload_n (i := 1) d_L_law_2693 rfl rfl ?_
  refine QP.aload_n (i := 3) d_L_law_2694 rfl rfl ?_
  refine QP.calll (As := [.ref 0, .ref 133]) hI hc kx_undo d_L_law_2695 rfl (by decide) (fun h g1 hI1 hP => ?_)
  obtain ⟨r, Q, hr, hQ⟩ := hm h g1 hI1 hP
  refine QP.istore (i := 5) d_L_law_2698 (by decide) (by decide) rfl ?_
  refine QP.aload_n (i := 2) d_L_law_2700 rfl rfl ?_
  refine QP.callr (As := []) (q := (RX10, TX10, 15)) hI1 hr k_L_law_331 d_L_law_2701 rfl rfl (by decide) rfl rfl (by decide) (fun h2 q2 => ?_)
  obtain ⟨e1, e2, e3⟩ := hQ h2 q2
  refine QP.istore (i := 6) d_L_law_2704 (by decide) (by decide) rfl ?_
  refine QP.aload_n (i := 2) d_L_law_2706 rfl rfl ?_
  refine QP.callr (As := []) (q := (RX10, TX10, 15)) hI1 (m_thrown hI1) k_L_law_141 d_L_law_2707 rfl rfl (by decide) rfl rfl (by decide) (fun h3 q3 => ?_)
  subst q3
  refine QP.iload (i := 5) d_L_law_2710 rfl ?_
  refine QP.icmp_eq (tgt := 2717) d_L_law_2712 (by decide) (fun _ => ?_) (fun q => absurd e1 q)
  refine QP.iload (i := 5) d_L_law_2717 rfl ?_
  refine QP.if_ne (tgt := 2734) d_L_law_2719 (by decide) (fun _ => QP.goto (tgt := 2751) d_L_law_2734 (by decide) (hn _ _ _ _ _ _ hI1 e3)) (fun c0 => ?_)
  refine QP.aload_n (i := 3) d_L_law_2722 rfl rfl ?_
  refine QP.iconst (x := 0) d_L_law_2723 (by decide) ?_
  refine QP.lald (n := 1) (j := 0) d_L_law_2724 rfl (hI1.lt (by decide)) (by decide) rfl (by decide) ?_
  rw [e2 c0]
  refine QP.iload (i := 6) d_L_law_2725 rfl ?_
  refine QP.i2l d_L_law_2727 ?_
  refine QP.lcmp d_L_law_2728 ?_
  exact QP.if_eq (tgt := 2734) d_L_law_2729 (by decide) (fun _ => QP.goto (tgt := 2751) d_L_law_2734 (by decide) (hn _ _ _ _ _ _ hI1 e3)) (fun q => absurd (lg_cmp_rf _) q)
theorem lb_digest {S : am_S} {n j : Nat} {x5 x6 x7 x8 : Value} {hi : am_HI} {g : am_G} {r : Int64} (hI : am_Inv g) (ho : OpV M_X9_digest M_X10_digest (.long r) hi g) (hn : LN S n j) : QP S (n + 1, 6 * (n + 1)) 2737 (lL j x5 x6 x7 x8) [] hi g := by
  refine QP.less (b' := (n, 6 * n)) ?_ ⟨by show n ≤ n + 1; omega, by show 6 * n ≤ 6 * (n + 1); omega⟩
  obtain ⟨P, hc, hm⟩ := ho
  refine QP.aload_n (i := 1) d_L_law_2737 rfl rfl ?_
  refine QP.callg (As := []) (q := (RX9, TX9, 7)) hI hc k_L_law_332 d_L_law_2738 rfl rfl (by decide) rfl rfl (by decide) (fun h g1 hI1 hP => ?_)
  obtain ⟨Q, hr, hQ⟩ := hm h g1 hI1 hP
  refine QP.aload_n (i := 2) d_L_law_2741 rfl rfl ?_
  refine QP.callr (As := []) (q := (RX10, TX10, 15)) hI1 hr k_L_law_336 d_L_law_2742 rfl rfl (by decide) rfl rfl (Nat.le_of_ble_eq_true rfl) (fun h2 q2 => ?_)
  refine QP.lcmp d_L_law_2745 ?_
  exact QP.if_eq (tgt := 2751) d_L_law_2746 (by decide) (fun _ => hn _ _ _ _ _ _ hI1 (hQ h2 q2)) (fun q => absurd (lg_cmp_rf _) q)
