/-! THE LAW's calls 0 to 9. -/
theorem lc_0 {X : CX} {G : GX} {q0 L : Nat} {xs : Nat → Int32} {S : Nat → va_E} {D : DM} {Q : MM} {B q a b i : Nat} (c : LC X G q0 L xs) (hi : i + 4 ≤ L) (hL : L ≤ 2048) (hS : LSt G S D Q) (hR : Rel B q D Q) (hB : B + 24 * q + 48 ≤ 80000) (ha : a + 8 ≤ 603072) (hb : b + 64 ≤ 7157866) (kk : ∀ S1 D1 Q1 B1 q1, LSt G S1 D1 Q1 → Rel B1 q1 D1 Q1 → B1 + 24 * q1 ≤ B + 24 * q + 48 → AW X G 9 126 3033 (LO G q0 i) [] S1 (a + 8) (b + 64)) : AW X G 9 126 308 (LO G q0 i) [] S a b := by
  obtain ⟨h, hN, hX⟩ := c
  obtain ⟨hD, hQ, ⟨f4, h4⟩, f5, h5⟩ := id hS
  obtain ⟨t, t1, t2⟩ := hR.t
  obtain ⟨hR2, hag⟩ := chg_add hR (xs (i + 1)) (xs (i + 2)) (xs (i + 3))
  refine r_aload_n (pc' := 309) h dL_law_308 rfl rfl ?_
  refine r_sarg (k := 1) (pc' := 315) h hX dL_law_309 dL_law_310 dL_law_312 dL_law_313 dL_law_314 rfl rfl rfl (by decide) (by omega) hL ?_
  refine r_sarg (k := 2) (pc' := 321) h hX dL_law_315 dL_law_316 dL_law_318 dL_law_319 dL_law_320 rfl rfl rfl (by decide) (by omega) hL ?_
  refine r_sarg (k := 3) (pc' := 327) h hX dL_law_321 dL_law_322 dL_law_324 dL_law_325 dL_law_326 rfl rfl rfl (by decide) (by omega) hL ?_
  refine r_aload_n (pc' := 328) h dL_law_327 rfl rfl ?_
  refine r_callSL (pc' := 331) (st := []) (M := (yL_addTurbine, cL_addTurbine, 6, some .int)) (As := [.ref (ad G 0), .int (xs (i + 1)), .int (xs (i + 2)), .int (xs (i + 3)), .ref (ad G 124)]) h hN dL_law_328 rfl lL_164 sL_addTurbine rfl rfl (by decide) ⟨by decide, by decide, by show a + 3 ≤ 603072; omega, by show b + 18 ≤ 7157866; omega⟩ (kL_addTurbine hD (by decide) h4 hR.v hag (fun S1 g hD1 hf hg e1 => ?_))
  show AW X G 9 126 331 _ _ S1 _ _
  have hS1 := hS.x hD1 hf hg
  have hQ1 : isM G 126 S1 Q := hS1.2.1
  refine r_istore (pc' := 333) h dL_law_331 rfl (by decide) rfl ?_
  refine r_aload_n (pc' := 334) h dL_law_333 rfl rfl ?_
  refine r_sarg (k := 1) (pc' := 340) h hX dL_law_334 dL_law_335 dL_law_337 dL_law_338 dL_law_339 rfl rfl rfl (by decide) (by omega) hL ?_
  refine r_sarg (k := 2) (pc' := 346) h hX dL_law_340 dL_law_341 dL_law_343 dL_law_344 dL_law_345 rfl rfl rfl (by decide) (by omega) hL ?_
  refine r_sarg (k := 3) (pc' := 352) h hX dL_law_346 dL_law_347 dL_law_349 dL_law_350 dL_law_351 rfl rfl rfl (by decide) (by omega) hL ?_
  refine r_callVL (pc' := 355) (st := []) (M := mX5_addTurbine) (As := [.int (xs (i + 1)), .int (xs (i + 2)), .int (xs (i + 3))]) h dL_law_352 rfl lL_169 vX5_addTurbine rfl hQ1.l0 hQ1.o rfl rfl (by decide) ⟨by decide, by decide, by show a + 3 + 0 ≤ 603072; omega, by show b + 18 + 0 ≤ 7157866; omega⟩ (kX5_addTurbine hQ1 hR.w hR.c (fun S2 hQ2 hR3 => ?_))
  show AW X G 9 126 355 _ _ S2 _ _
  refine r_istore (pc' := 357) h dL_law_355 rfl (by decide) rfl ?_
  exact r_tail (tgt := 3033) h hQ2 ((hR3 124 (by decide)).trans hg) rfl rfl rfl rfl rfl e1 dL_law_357 dL_law_358 dL_law_361 dL_law_363 dL_law_368 dL_law_370 dL_law_373 dL_law_374 dL_law_375 dL_law_376 dL_law_378 dL_law_379 dL_law_380 dL_law_385 (by decide) (by show a + 3 + 0 ≤ 603072; omega) (by show b + 18 + 0 ≤ 7157866; omega) rfl (r_widen (by show a + 3 + 0 ≤ a + 8; omega) (by show b + 18 + 0 ≤ b + 64; omega) (kk S2 _ _ _ _ (hS1.m hQ2 hR3) hR2 (by omega)))
theorem lc_1 {X : CX} {G : GX} {q0 L : Nat} {xs : Nat → Int32} {S : Nat → va_E} {D : DM} {Q : MM} {B q a b i : Nat} (c : LC X G q0 L xs) (hi : i + 4 ≤ L) (hL : L ≤ 2048) (hS : LSt G S D Q) (hR : Rel B q D Q) (hB : B + 24 * q + 48 ≤ 80000) (ha : a + 8 ≤ 603072) (hb : b + 64 ≤ 7157866) (kk : ∀ S1 D1 Q1 B1 q1, LSt G S1 D1 Q1 → Rel B1 q1 D1 Q1 → B1 + 24 * q1 ≤ B + 24 * q + 48 → AW X G 9 126 3033 (LO G q0 i) [] S1 (a + 8) (b + 64)) : AW X G 9 126 388 (LO G q0 i) [] S a b := by
  obtain ⟨h, hN, hX⟩ := c
  obtain ⟨hD, hQ, ⟨f4, h4⟩, f5, h5⟩ := id hS
  obtain ⟨t, t1, t2⟩ := hR.t
  obtain ⟨hR2, hag⟩ := chg_fail hR (xs (i + 1))
  refine r_aload_n (pc' := 389) h dL_law_388 rfl rfl ?_
  refine r_sarg (k := 1) (pc' := 395) h hX dL_law_389 dL_law_390 dL_law_392 dL_law_393 dL_law_394 rfl rfl rfl (by decide) (by omega) hL ?_
  refine r_aload_n (pc' := 396) h dL_law_395 rfl rfl ?_
  refine r_callSL (pc' := 399) (st := []) (M := (yL_fail, cL_fail, 4, some .int)) (As := [.ref (ad G 0), .int (xs (i + 1)), .ref (ad G 124)]) h hN dL_law_396 rfl lL_173 sL_fail rfl rfl (by decide) ⟨by decide, by decide, by show a + 3 ≤ 603072; omega, by show b + 18 ≤ 7157866; omega⟩ (kL_fail hD (by decide) h4 hR.v hag (fun S1 g hD1 hf hg e1 => ?_))
  show AW X G 9 126 399 _ _ S1 _ _
  have hS1 := hS.x hD1 hf hg
  have hQ1 : isM G 126 S1 Q := hS1.2.1
  refine r_istore (pc' := 401) h dL_law_399 rfl (by decide) rfl ?_
  refine r_aload_n (pc' := 402) h dL_law_401 rfl rfl ?_
  refine r_sarg (k := 1) (pc' := 408) h hX dL_law_402 dL_law_403 dL_law_405 dL_law_406 dL_law_407 rfl rfl rfl (by decide) (by omega) hL ?_
  refine r_callVL (pc' := 411) (st := []) (M := mX5_fail) (As := [.int (xs (i + 1))]) h dL_law_408 rfl lL_176 vX5_fail rfl hQ1.l0 hQ1.o rfl rfl (by decide) ⟨by decide, by decide, by show a + 3 + 0 ≤ 603072; omega, by show b + 18 + 0 ≤ 7157866; omega⟩ (kX5_fail hQ1 hR.w hR.c (fun S2 hQ2 hR3 => ?_))
  show AW X G 9 126 411 _ _ S2 _ _
  refine r_istore (pc' := 413) h dL_law_411 rfl (by decide) rfl ?_
  exact r_tail (tgt := 3033) h hQ2 ((hR3 124 (by decide)).trans hg) rfl rfl rfl rfl rfl e1 dL_law_413 dL_law_414 dL_law_417 dL_law_419 dL_law_424 dL_law_426 dL_law_429 dL_law_430 dL_law_431 dL_law_432 dL_law_434 dL_law_435 dL_law_436 dL_law_441 (by decide) (by show a + 3 + 0 ≤ 603072; omega) (by show b + 18 + 0 ≤ 7157866; omega) rfl (r_widen (by show a + 3 + 0 ≤ a + 8; omega) (by show b + 18 + 0 ≤ b + 64; omega) (kk S2 _ _ _ _ (hS1.m hQ2 hR3) hR2 (by omega)))
theorem lc_2 {X : CX} {G : GX} {q0 L : Nat} {xs : Nat → Int32} {S : Nat → va_E} {D : DM} {Q : MM} {B q a b i : Nat} (c : LC X G q0 L xs) (hi : i + 4 ≤ L) (hL : L ≤ 2048) (hS : LSt G S D Q) (hR : Rel B q D Q) (hB : B + 24 * q + 48 ≤ 80000) (ha : a + 8 ≤ 603072) (hb : b + 64 ≤ 7157866) (kk : ∀ S1 D1 Q1 B1 q1, LSt G S1 D1 Q1 → Rel B1 q1 D1 Q1 → B1 + 24 * q1 ≤ B + 24 * q + 48 → AW X G 9 126 3033 (LO G q0 i) [] S1 (a + 8) (b + 64)) : AW X G 9 126 444 (LO G q0 i) [] S a b := by
  obtain ⟨h, hN, hX⟩ := c
  obtain ⟨hD, hQ, ⟨f4, h4⟩, f5, h5⟩ := id hS
  obtain ⟨t, t1, t2⟩ := hR.t
  obtain ⟨hR2, hag⟩ := chg_send hR (xs (i + 1)) (xs (i + 2))
  refine r_aload_n (pc' := 445) h dL_law_444 rfl rfl ?_
  refine r_sarg (k := 1) (pc' := 451) h hX dL_law_445 dL_law_446 dL_law_448 dL_law_449 dL_law_450 rfl rfl rfl (by decide) (by omega) hL ?_
  refine r_sarg (k := 2) (pc' := 457) h hX dL_law_451 dL_law_452 dL_law_454 dL_law_455 dL_law_456 rfl rfl rfl (by decide) (by omega) hL ?_
  refine r_aload_n (pc' := 458) h dL_law_457 rfl rfl ?_
  refine r_callSL (pc' := 461) (st := []) (M := (yL_sendCrew, cL_sendCrew, 5, some .int)) (As := [.ref (ad G 0), .int (xs (i + 1)), .int (xs (i + 2)), .ref (ad G 124)]) h hN dL_law_458 rfl lL_177 sL_sendCrew rfl rfl (by decide) ⟨by decide, by decide, by show a + 3 ≤ 603072; omega, by show b + 18 ≤ 7157866; omega⟩ (kL_sendCrew hD (by decide) h4 hR.v hag (fun S1 g hD1 hf hg e1 => ?_))
  show AW X G 9 126 461 _ _ S1 _ _
  have hS1 := hS.x hD1 hf hg
  have hQ1 : isM G 126 S1 Q := hS1.2.1
  refine r_istore (pc' := 463) h dL_law_461 rfl (by decide) rfl ?_
  refine r_aload_n (pc' := 464) h dL_law_463 rfl rfl ?_
  refine r_sarg (k := 1) (pc' := 470) h hX dL_law_464 dL_law_465 dL_law_467 dL_law_468 dL_law_469 rfl rfl rfl (by decide) (by omega) hL ?_
  refine r_sarg (k := 2) (pc' := 476) h hX dL_law_470 dL_law_471 dL_law_473 dL_law_474 dL_law_475 rfl rfl rfl (by decide) (by omega) hL ?_
  refine r_callVL (pc' := 479) (st := []) (M := mX5_sendCrew) (As := [.int (xs (i + 1)), .int (xs (i + 2))]) h dL_law_476 rfl lL_180 vX5_sendCrew rfl hQ1.l0 hQ1.o rfl rfl (by decide) ⟨by decide, by decide, by show a + 3 + 0 ≤ 603072; omega, by show b + 18 + 0 ≤ 7157866; omega⟩ (kX5_sendCrew hQ1 hR.w hR.c (fun S2 hQ2 hR3 => ?_))
  show AW X G 9 126 479 _ _ S2 _ _
  refine r_istore (pc' := 481) h dL_law_479 rfl (by decide) rfl ?_
  exact r_tail (tgt := 3033) h hQ2 ((hR3 124 (by decide)).trans hg) rfl rfl rfl rfl rfl e1 dL_law_481 dL_law_482 dL_law_485 dL_law_487 dL_law_492 dL_law_494 dL_law_497 dL_law_498 dL_law_499 dL_law_500 dL_law_502 dL_law_503 dL_law_504 dL_law_509 (by decide) (by show a + 3 + 0 ≤ 603072; omega) (by show b + 18 + 0 ≤ 7157866; omega) rfl (r_widen (by show a + 3 + 0 ≤ a + 8; omega) (by show b + 18 + 0 ≤ b + 64; omega) (kk S2 _ _ _ _ (hS1.m hQ2 hR3) hR2 (by omega)))
theorem lc_3 {X : CX} {G : GX} {q0 L : Nat} {xs : Nat → Int32} {S : Nat → va_E} {D : DM} {Q : MM} {B q a b i : Nat} (c : LC X G q0 L xs) (hi : i + 4 ≤ L) (hL : L ≤ 2048) (hS : LSt G S D Q) (hR : Rel B q D Q) (hB : B + 24 * q + 48 ≤ 80000) (ha : a + 8 ≤ 603072) (hb : b + 64 ≤ 7157866) (kk : ∀ S1 D1 Q1 B1 q1, LSt G S1 D1 Q1 → Rel B1 q1 D1 Q1 → B1 + 24 * q1 ≤ B + 24 * q + 48 → AW X G 9 126 3033 (LO G q0 i) [] S1 (a + 8) (b + 64)) : AW X G 9 126 512 (LO G q0 i) [] S a b := by
  obtain ⟨h, hN, hX⟩ := c
  obtain ⟨hD, hQ, ⟨f4, h4⟩, f5, h5⟩ := id hS
  obtain ⟨t, t1, t2⟩ := hR.t
  obtain ⟨hR2, hag⟩ := chg_recall hR (xs (i + 1))
  refine r_aload_n (pc' := 513) h dL_law_512 rfl rfl ?_
  refine r_sarg (k := 1) (pc' := 519) h hX dL_law_513 dL_law_514 dL_law_516 dL_law_517 dL_law_518 rfl rfl rfl (by decide) (by omega) hL ?_
  refine r_aload_n (pc' := 520) h dL_law_519 rfl rfl ?_
  refine r_callSL (pc' := 523) (st := []) (M := (yL_recallCrew, cL_recallCrew, 4, some .int)) (As := [.ref (ad G 0), .int (xs (i + 1)), .ref (ad G 124)]) h hN dL_law_520 rfl lL_181 sL_recallCrew rfl rfl (by decide) ⟨by decide, by decide, by show a + 3 ≤ 603072; omega, by show b + 18 ≤ 7157866; omega⟩ (kL_recallCrew hD (by decide) h4 hR.v hag (fun S1 g hD1 hf hg e1 => ?_))
  show AW X G 9 126 523 _ _ S1 _ _
  have hS1 := hS.x hD1 hf hg
  have hQ1 : isM G 126 S1 Q := hS1.2.1
  refine r_istore (pc' := 525) h dL_law_523 rfl (by decide) rfl ?_
  refine r_aload_n (pc' := 526) h dL_law_525 rfl rfl ?_
  refine r_sarg (k := 1) (pc' := 532) h hX dL_law_526 dL_law_527 dL_law_529 dL_law_530 dL_law_531 rfl rfl rfl (by decide) (by omega) hL ?_
  refine r_callVL (pc' := 535) (st := []) (M := mX5_recallCrew) (As := [.int (xs (i + 1))]) h dL_law_532 rfl lL_183 vX5_recallCrew rfl hQ1.l0 hQ1.o rfl rfl (by decide) ⟨by decide, by decide, by show a + 3 + 0 ≤ 603072; omega, by show b + 18 + 0 ≤ 7157866; omega⟩ (kX5_recallCrew hQ1 hR.w hR.c (fun S2 hQ2 hR3 => ?_))
  show AW X G 9 126 535 _ _ S2 _ _
  refine r_istore (pc' := 537) h dL_law_535 rfl (by decide) rfl ?_
  exact r_tail (tgt := 3033) h hQ2 ((hR3 124 (by decide)).trans hg) rfl rfl rfl rfl rfl e1 dL_law_537 dL_law_538 dL_law_541 dL_law_543 dL_law_548 dL_law_550 dL_law_553 dL_law_554 dL_law_555 dL_law_556 dL_law_558 dL_law_559 dL_law_560 dL_law_565 (by decide) (by show a + 3 + 0 ≤ 603072; omega) (by show b + 18 + 0 ≤ 7157866; omega) rfl (r_widen (by show a + 3 + 0 ≤ a + 8; omega) (by show b + 18 + 0 ≤ b + 64; omega) (kk S2 _ _ _ _ (hS1.m hQ2 hR3) hR2 (by omega)))
theorem lc_4 {X : CX} {G : GX} {q0 L : Nat} {xs : Nat → Int32} {S : Nat → va_E} {D : DM} {Q : MM} {B q a b i : Nat} (c : LC X G q0 L xs) (hi : i + 4 ≤ L) (hL : L ≤ 2048) (hS : LSt G S D Q) (hR : Rel B q D Q) (hB : B + 24 * q + 48 ≤ 80000) (ha : a + 8 ≤ 603072) (hb : b + 64 ≤ 7157866) (kk : ∀ S1 D1 Q1 B1 q1, LSt G S1 D1 Q1 → Rel B1 q1 D1 Q1 → B1 + 24 * q1 ≤ B + 24 * q + 48 → AW X G 9 126 3033 (LO G q0 i) [] S1 (a + 8) (b + 64)) : AW X G 9 126 568 (LO G q0 i) [] S a b := by
  obtain ⟨h, hN, hX⟩ := c
  obtain ⟨hD, hQ, ⟨f4, h4⟩, f5, h5⟩ := id hS
  obtain ⟨t, t1, t2⟩ := hR.t
  obtain ⟨hR2, hag⟩ := chg_curtail hR (xs (i + 1)) (xs (i + 2))
  refine r_aload_n (pc' := 569) h dL_law_568 rfl rfl ?_
  refine r_sarg (k := 1) (pc' := 575) h hX dL_law_569 dL_law_570 dL_law_572 dL_law_573 dL_law_574 rfl rfl rfl (by decide) (by omega) hL ?_
  refine r_sarg (k := 2) (pc' := 581) h hX dL_law_575 dL_law_576 dL_law_578 dL_law_579 dL_law_580 rfl rfl rfl (by decide) (by omega) hL ?_
  refine r_aload_n (pc' := 582) h dL_law_581 rfl rfl ?_
  refine r_callSL (pc' := 585) (st := []) (M := (yL_curtail, cL_curtail, 5, some .int)) (As := [.ref (ad G 0), .int (xs (i + 1)), .int (xs (i + 2)), .ref (ad G 124)]) h hN dL_law_582 rfl lL_184 sL_curtail rfl rfl (by decide) ⟨by decide, by decide, by show a + 3 ≤ 603072; omega, by show b + 18 ≤ 7157866; omega⟩ (kL_curtail hD (by decide) h4 hR.v hag (fun S1 g hD1 hf hg e1 => ?_))
  show AW X G 9 126 585 _ _ S1 _ _
  have hS1 := hS.x hD1 hf hg
  have hQ1 : isM G 126 S1 Q := hS1.2.1
  refine r_istore (pc' := 587) h dL_law_585 rfl (by decide) rfl ?_
  refine r_aload_n (pc' := 588) h dL_law_587 rfl rfl ?_
  refine r_sarg (k := 1) (pc' := 594) h hX dL_law_588 dL_law_589 dL_law_591 dL_law_592 dL_law_593 rfl rfl rfl (by decide) (by omega) hL ?_
  refine r_sarg (k := 2) (pc' := 600) h hX dL_law_594 dL_law_595 dL_law_597 dL_law_598 dL_law_599 rfl rfl rfl (by decide) (by omega) hL ?_
  refine r_callVL (pc' := 603) (st := []) (M := mX5_curtail) (As := [.int (xs (i + 1)), .int (xs (i + 2))]) h dL_law_600 rfl lL_186 vX5_curtail rfl hQ1.l0 hQ1.o rfl rfl (by decide) ⟨by decide, by decide, by show a + 3 + 0 ≤ 603072; omega, by show b + 18 + 0 ≤ 7157866; omega⟩ (kX5_curtail hQ1 hR.w hR.c (fun S2 hQ2 hR3 => ?_))
  show AW X G 9 126 603 _ _ S2 _ _
  refine r_istore (pc' := 605) h dL_law_603 rfl (by decide) rfl ?_
  exact r_tail (tgt := 3033) h hQ2 ((hR3 124 (by decide)).trans hg) rfl rfl rfl rfl rfl e1 dL_law_605 dL_law_606 dL_law_609 dL_law_611 dL_law_616 dL_law_618 dL_law_621 dL_law_622 dL_law_623 dL_law_624 dL_law_626 dL_law_627 dL_law_628 dL_law_633 (by decide) (by show a + 3 + 0 ≤ 603072; omega) (by show b + 18 + 0 ≤ 7157866; omega) rfl (r_widen (by show a + 3 + 0 ≤ a + 8; omega) (by show b + 18 + 0 ≤ b + 64; omega) (kk S2 _ _ _ _ (hS1.m hQ2 hR3) hR2 (by omega)))
theorem lc_5 {X : CX} {G : GX} {q0 L : Nat} {xs : Nat → Int32} {S : Nat → va_E} {D : DM} {Q : MM} {B q a b i : Nat} (c : LC X G q0 L xs) (hi : i + 4 ≤ L) (hL : L ≤ 2048) (hS : LSt G S D Q) (hR : Rel B q D Q) (hB : B + 24 * q + 48 ≤ 80000) (ha : a + 8 ≤ 603072) (hb : b + 64 ≤ 7157866) (kk : ∀ S1 D1 Q1 B1 q1, LSt G S1 D1 Q1 → Rel B1 q1 D1 Q1 → B1 + 24 * q1 ≤ B + 24 * q + 48 → AW X G 9 126 3033 (LO G q0 i) [] S1 (a + 8) (b + 64)) : AW X G 9 126 636 (LO G q0 i) [] S a b := by
  obtain ⟨h, hN, hX⟩ := c
  obtain ⟨hD, hQ, ⟨f4, h4⟩, f5, h5⟩ := id hS
  obtain ⟨t, t1, t2⟩ := hR.t
  obtain ⟨hR2, hag⟩ := chg_release hR (xs (i + 1))
  refine r_aload_n (pc' := 637) h dL_law_636 rfl rfl ?_
  refine r_sarg (k := 1) (pc' := 643) h hX dL_law_637 dL_law_638 dL_law_640 dL_law_641 dL_law_642 rfl rfl rfl (by decide) (by omega) hL ?_
  refine r_aload_n (pc' := 644) h dL_law_643 rfl rfl ?_
  refine r_callSL (pc' := 647) (st := []) (M := (yL_release, cL_release, 4, some .int)) (As := [.ref (ad G 0), .int (xs (i + 1)), .ref (ad G 124)]) h hN dL_law_644 rfl lL_187 sL_release rfl rfl (by decide) ⟨by decide, by decide, by show a + 3 ≤ 603072; omega, by show b + 18 ≤ 7157866; omega⟩ (kL_release hD (by decide) h4 hR.v hag (fun S1 g hD1 hf hg e1 => ?_))
  show AW X G 9 126 647 _ _ S1 _ _
  have hS1 := hS.x hD1 hf hg
  have hQ1 : isM G 126 S1 Q := hS1.2.1
  refine r_istore (pc' := 649) h dL_law_647 rfl (by decide) rfl ?_
  refine r_aload_n (pc' := 650) h dL_law_649 rfl rfl ?_
  refine r_sarg (k := 1) (pc' := 656) h hX dL_law_650 dL_law_651 dL_law_653 dL_law_654 dL_law_655 rfl rfl rfl (by decide) (by omega) hL ?_
  refine r_callVL (pc' := 659) (st := []) (M := mX5_release) (As := [.int (xs (i + 1))]) h dL_law_656 rfl lL_189 vX5_release rfl hQ1.l0 hQ1.o rfl rfl (by decide) ⟨by decide, by decide, by show a + 3 + 0 ≤ 603072; omega, by show b + 18 + 0 ≤ 7157866; omega⟩ (kX5_release hQ1 hR.w hR.c (fun S2 hQ2 hR3 => ?_))
  show AW X G 9 126 659 _ _ S2 _ _
  refine r_istore (pc' := 661) h dL_law_659 rfl (by decide) rfl ?_
  exact r_tail (tgt := 3033) h hQ2 ((hR3 124 (by decide)).trans hg) rfl rfl rfl rfl rfl e1 dL_law_661 dL_law_662 dL_law_665 dL_law_667 dL_law_672 dL_law_674 dL_law_677 dL_law_678 dL_law_679 dL_law_680 dL_law_682 dL_law_683 dL_law_684 dL_law_689 (by decide) (by show a + 3 + 0 ≤ 603072; omega) (by show b + 18 + 0 ≤ 7157866; omega) rfl (r_widen (by show a + 3 + 0 ≤ a + 8; omega) (by show b + 18 + 0 ≤ b + 64; omega) (kk S2 _ _ _ _ (hS1.m hQ2 hR3) hR2 (by omega)))
theorem lc_6 {X : CX} {G : GX} {q0 L : Nat} {xs : Nat → Int32} {S : Nat → va_E} {D : DM} {Q : MM} {B q a b i : Nat} (c : LC X G q0 L xs) (hi : i + 4 ≤ L) (hL : L ≤ 2048) (hS : LSt G S D Q) (hR : Rel B q D Q) (hB : B + 24 * q + 48 ≤ 80000) (ha : a + 8 ≤ 603072) (hb : b + 64 ≤ 7157866) (kk : ∀ S1 D1 Q1 B1 q1, LSt G S1 D1 Q1 → Rel B1 q1 D1 Q1 → B1 + 24 * q1 ≤ B + 24 * q + 48 → AW X G 9 126 3033 (LO G q0 i) [] S1 (a + 8) (b + 64)) : AW X G 9 126 692 (LO G q0 i) [] S a b := by
  obtain ⟨h, hN, hX⟩ := c
  obtain ⟨hD, hQ, ⟨f4, h4⟩, f5, h5⟩ := id hS
  obtain ⟨t, t1, t2⟩ := hR.t
  refine r_aload_n (pc' := 693) h dL_law_692 rfl rfl ?_
  refine r_callVL (pc' := 696) (st := []) (M := mX4_turbineCount) (As := []) h dL_law_693 rfl lL_190 vX4_turbineCount rfl hD.l0 hD.o0 rfl rfl (by decide) ⟨by decide, by decide, by show a + 0 ≤ 603072; omega, by show b + 0 ≤ 7157866; omega⟩ (kX4_turbineCount hD ?_)
  show AW X G 9 126 696 _ _ S _ _
  refine r_aload_n (pc' := 697) h dL_law_696 rfl rfl ?_
  refine r_callVL (pc' := 700) (st := [.int _]) (M := mX5_turbineCount) (As := []) h dL_law_697 rfl lL_193 vX5_turbineCount rfl hQ.l0 hQ.o rfl rfl (by show 1 + 0 ≤ 8; decide) ⟨by decide, by decide, by show a + 0 + 0 ≤ 603072; omega, by show b + 0 + 0 ≤ 7157866; omega⟩ (kX5_turbineCount hQ (fun S2 hQ2 hR3 => ?_))
  show AW X G 9 126 700 _ _ S2 _ _
  exact r_icmp_eq (tgt := 3033) (pc' := 703) h dL_law_700 (by decide) rfl (fun _ => r_widen (by show a + 0 + 0 ≤ a + 8; omega) (by show b + 0 + 0 ≤ b + 64; omega) (kk S2 _ _ _ _ (hS.m hQ2 hR3) (hR.thr 0) (by omega))) (fun c => absurd (dr_count hR) c)
theorem lc_7 {X : CX} {G : GX} {q0 L : Nat} {xs : Nat → Int32} {S : Nat → va_E} {D : DM} {Q : MM} {B q a b i : Nat} (c : LC X G q0 L xs) (hi : i + 4 ≤ L) (hL : L ≤ 2048) (hS : LSt G S D Q) (hR : Rel B q D Q) (hB : B + 24 * q + 48 ≤ 80000) (ha : a + 8 ≤ 603072) (hb : b + 64 ≤ 7157866) (kk : ∀ S1 D1 Q1 B1 q1, LSt G S1 D1 Q1 → Rel B1 q1 D1 Q1 → B1 + 24 * q1 ≤ B + 24 * q + 48 → AW X G 9 126 3033 (LO G q0 i) [] S1 (a + 8) (b + 64)) : AW X G 9 126 705 (LO G q0 i) [] S a b := by
  obtain ⟨h, hN, hX⟩ := c
  obtain ⟨hD, hQ, ⟨f4, h4⟩, f5, h5⟩ := id hS
  obtain ⟨t, t1, t2⟩ := hR.t
  obtain ⟨hR2, hag⟩ := hR.rd (rd_ta hR.2.1.1 hR.2.1.2 (xs (i + 1)) (xs (i + 2)))
  refine r_aload_n (pc' := 706) h dL_law_705 rfl rfl ?_
  refine r_sarg (k := 1) (pc' := 712) h hX dL_law_706 dL_law_707 dL_law_709 dL_law_710 dL_law_711 rfl rfl rfl (by decide) (by omega) hL ?_
  refine r_sarg (k := 2) (pc' := 718) h hX dL_law_712 dL_law_713 dL_law_715 dL_law_716 dL_law_717 rfl rfl rfl (by decide) (by omega) hL ?_
  refine r_aload_n (pc' := 719) h dL_law_718 rfl rfl ?_
  refine r_callSL (pc' := 722) (st := []) (M := (yL_turbineAt, cL_turbineAt, 5, some .int)) (As := [.ref (ad G 0), .int (xs (i + 1)), .int (xs (i + 2)), .ref (ad G 124)]) h hN dL_law_719 rfl lL_194 sL_turbineAt rfl rfl (by decide) ⟨by decide, by decide, by show a + 2 ≤ 603072; omega, by show b + 12 ≤ 7157866; omega⟩ (kL_turbineAt hD (by decide) h4 (fun K1 h1 => kX4_turbineAt hD (h1 S hD DR.rfl')) hag (fun S1 g hD1 hf hg e1 => ?_))
  show AW X G 9 126 722 _ _ S1 _ _
  have hS1 := hS.x hD1 hf hg
  have hQ1 : isM G 126 S1 Q := hS1.2.1
  refine r_istore (pc' := 724) h dL_law_722 rfl (by decide) rfl ?_
  refine r_aload_n (pc' := 725) h dL_law_724 rfl rfl ?_
  refine r_sarg (k := 1) (pc' := 731) h hX dL_law_725 dL_law_726 dL_law_728 dL_law_729 dL_law_730 rfl rfl rfl (by decide) (by omega) hL ?_
  refine r_sarg (k := 2) (pc' := 737) h hX dL_law_731 dL_law_732 dL_law_734 dL_law_735 dL_law_736 rfl rfl rfl (by decide) (by omega) hL ?_
  refine r_callVL (pc' := 740) (st := []) (M := mX5_turbineAt) (As := [.int (xs (i + 1)), .int (xs (i + 2))]) h dL_law_737 rfl lL_196 vX5_turbineAt rfl hQ1.l0 hQ1.o rfl rfl (by decide) ⟨by decide, by decide, by show a + 2 + 0 ≤ 603072; omega, by show b + 12 + 0 ≤ 7157866; omega⟩ (kX5_turbineAt hQ1 hR.w (fun S2 hQ2 hR3 => ?_))
  show AW X G 9 126 740 _ _ S2 _ _
  refine r_istore (pc' := 742) h dL_law_740 rfl (by decide) rfl ?_
  exact r_tail (tgt := 3033) h hQ2 ((hR3 124 (by decide)).trans hg) rfl rfl rfl rfl rfl e1 dL_law_742 dL_law_743 dL_law_746 dL_law_748 dL_law_753 dL_law_755 dL_law_758 dL_law_759 dL_law_760 dL_law_761 dL_law_763 dL_law_764 dL_law_765 dL_law_770 (by decide) (by show a + 2 + 0 ≤ 603072; omega) (by show b + 12 + 0 ≤ 7157866; omega) rfl (r_widen (by show a + 2 + 0 ≤ a + 8; omega) (by show b + 12 + 0 ≤ b + 64; omega) (kk S2 _ _ _ _ (hS1.m hQ2 hR3) hR2 (by omega)))
theorem lc_8 {X : CX} {G : GX} {q0 L : Nat} {xs : Nat → Int32} {S : Nat → va_E} {D : DM} {Q : MM} {B q a b i : Nat} (c : LC X G q0 L xs) (hi : i + 4 ≤ L) (hL : L ≤ 2048) (hS : LSt G S D Q) (hR : Rel B q D Q) (hB : B + 24 * q + 48 ≤ 80000) (ha : a + 8 ≤ 603072) (hb : b + 64 ≤ 7157866) (kk : ∀ S1 D1 Q1 B1 q1, LSt G S1 D1 Q1 → Rel B1 q1 D1 Q1 → B1 + 24 * q1 ≤ B + 24 * q + 48 → AW X G 9 126 3033 (LO G q0 i) [] S1 (a + 8) (b + 64)) : AW X G 9 126 773 (LO G q0 i) [] S a b := by
  obtain ⟨h, hN, hX⟩ := c
  obtain ⟨hD, hQ, ⟨f4, h4⟩, f5, h5⟩ := id hS
  obtain ⟨t, t1, t2⟩ := hR.t
  obtain ⟨hR2, hag⟩ := hR.rd (rd_row hR.2.1.1 hR.2.1.2 (xs (i + 1)))
  refine r_aload_n (pc' := 774) h dL_law_773 rfl rfl ?_
  refine r_sarg (k := 1) (pc' := 780) h hX dL_law_774 dL_law_775 dL_law_777 dL_law_778 dL_law_779 rfl rfl rfl (by decide) (by omega) hL ?_
  refine r_aload_n (pc' := 781) h dL_law_780 rfl rfl ?_
  refine r_callSL (pc' := 784) (st := []) (M := (yL_rowOf, cL_rowOf, 4, some .int)) (As := [.ref (ad G 0), .int (xs (i + 1)), .ref (ad G 124)]) h hN dL_law_781 rfl lL_197 sL_rowOf rfl rfl (by decide) ⟨by decide, by decide, by show a + 1 ≤ 603072; omega, by show b + 6 ≤ 7157866; omega⟩ (kL_rowOf hD (by decide) h4 (fun K1 h1 => kX4_rowOf hD (h1 S hD DR.rfl')) hag (fun S1 g hD1 hf hg e1 => ?_))
  show AW X G 9 126 784 _ _ S1 _ _
  have hS1 := hS.x hD1 hf hg
  have hQ1 : isM G 126 S1 Q := hS1.2.1
  refine r_istore (pc' := 786) h dL_law_784 rfl (by decide) rfl ?_
  refine r_aload_n (pc' := 787) h dL_law_786 rfl rfl ?_
  refine r_sarg (k := 1) (pc' := 793) h hX dL_law_787 dL_law_788 dL_law_790 dL_law_791 dL_law_792 rfl rfl rfl (by decide) (by omega) hL ?_
  refine r_callVL (pc' := 796) (st := []) (M := mX5_rowOf) (As := [.int (xs (i + 1))]) h dL_law_793 rfl lL_199 vX5_rowOf rfl hQ1.l0 hQ1.o rfl rfl (by decide) ⟨by decide, by decide, by show a + 1 + 0 ≤ 603072; omega, by show b + 6 + 0 ≤ 7157866; omega⟩ (kX5_rowOf hQ1 hR.w (fun S2 hQ2 hR3 => ?_))
  show AW X G 9 126 796 _ _ S2 _ _
  refine r_istore (pc' := 798) h dL_law_796 rfl (by decide) rfl ?_
  exact r_tail (tgt := 3033) h hQ2 ((hR3 124 (by decide)).trans hg) rfl rfl rfl rfl rfl e1 dL_law_798 dL_law_799 dL_law_802 dL_law_804 dL_law_809 dL_law_811 dL_law_814 dL_law_815 dL_law_816 dL_law_817 dL_law_819 dL_law_820 dL_law_821 dL_law_826 (by decide) (by show a + 1 + 0 ≤ 603072; omega) (by show b + 6 + 0 ≤ 7157866; omega) rfl (r_widen (by show a + 1 + 0 ≤ a + 8; omega) (by show b + 6 + 0 ≤ b + 64; omega) (kk S2 _ _ _ _ (hS1.m hQ2 hR3) hR2 (by omega)))
theorem lc_9 {X : CX} {G : GX} {q0 L : Nat} {xs : Nat → Int32} {S : Nat → va_E} {D : DM} {Q : MM} {B q a b i : Nat} (c : LC X G q0 L xs) (hi : i + 4 ≤ L) (hL : L ≤ 2048) (hS : LSt G S D Q) (hR : Rel B q D Q) (hB : B + 24 * q + 48 ≤ 80000) (ha : a + 8 ≤ 603072) (hb : b + 64 ≤ 7157866) (kk : ∀ S1 D1 Q1 B1 q1, LSt G S1 D1 Q1 → Rel B1 q1 D1 Q1 → B1 + 24 * q1 ≤ B + 24 * q + 48 → AW X G 9 126 3033 (LO G q0 i) [] S1 (a + 8) (b + 64)) : AW X G 9 126 829 (LO G q0 i) [] S a b := by
  obtain ⟨h, hN, hX⟩ := c
  obtain ⟨hD, hQ, ⟨f4, h4⟩, f5, h5⟩ := id hS
  obtain ⟨t, t1, t2⟩ := hR.t
  obtain ⟨hR2, hag⟩ := hR.rd (rd_col hR.2.1.1 hR.2.1.2 (xs (i + 1)))
  refine r_aload_n (pc' := 830) h dL_law_829 rfl rfl ?_
  refine r_sarg (k := 1) (pc' := 836) h hX dL_law_830 dL_law_831 dL_law_833 dL_law_834 dL_law_835 rfl rfl rfl (by decide) (by omega) hL ?_
  refine r_aload_n (pc' := 837) h dL_law_836 rfl rfl ?_
  refine r_callSL (pc' := 840) (st := []) (M := (yL_columnOf, cL_columnOf, 4, some .int)) (As := [.ref (ad G 0), .int (xs (i + 1)), .ref (ad G 124)]) h hN dL_law_837 rfl lL_200 sL_columnOf rfl rfl (by decide) ⟨by decide, by decide, by show a + 1 ≤ 603072; omega, by show b + 6 ≤ 7157866; omega⟩ (kL_columnOf hD (by decide) h4 (fun K1 h1 => kX4_columnOf hD (h1 S hD DR.rfl')) hag (fun S1 g hD1 hf hg e1 => ?_))
  show AW X G 9 126 840 _ _ S1 _ _
  have hS1 := hS.x hD1 hf hg
  have hQ1 : isM G 126 S1 Q := hS1.2.1
  refine r_istore (pc' := 842) h dL_law_840 rfl (by decide) rfl ?_
  refine r_aload_n (pc' := 843) h dL_law_842 rfl rfl ?_
  refine r_sarg (k := 1) (pc' := 849) h hX dL_law_843 dL_law_844 dL_law_846 dL_law_847 dL_law_848 rfl rfl rfl (by decide) (by omega) hL ?_
  refine r_callVL (pc' := 852) (st := []) (M := mX5_columnOf) (As := [.int (xs (i + 1))]) h dL_law_849 rfl lL_202 vX5_columnOf rfl hQ1.l0 hQ1.o rfl rfl (by decide) ⟨by decide, by decide, by show a + 1 + 0 ≤ 603072; omega, by show b + 6 + 0 ≤ 7157866; omega⟩ (kX5_columnOf hQ1 hR.w (fun S2 hQ2 hR3 => ?_))
  show AW X G 9 126 852 _ _ S2 _ _
  refine r_istore (pc' := 854) h dL_law_852 rfl (by decide) rfl ?_
  exact r_tail (tgt := 3033) h hQ2 ((hR3 124 (by decide)).trans hg) rfl rfl rfl rfl rfl e1 dL_law_854 dL_law_855 dL_law_858 dL_law_860 dL_law_865 dL_law_867 dL_law_870 dL_law_871 dL_law_872 dL_law_873 dL_law_875 dL_law_876 dL_law_877 dL_law_882 (by decide) (by show a + 1 + 0 ≤ 603072; omega) (by show b + 6 + 0 ≤ 7157866; omega) rfl (r_widen (by show a + 1 + 0 ≤ a + 8; omega) (by show b + 6 + 0 ≤ b + 64; omega) (kk S2 _ _ _ _ (hS1.m hQ2 hR3) hR2 (by omega)))
