/-! THE LAW's calls 20 to 29. -/
theorem lc_20 {X : CX} {G : GX} {q0 L : Nat} {xs : Nat → Int32} {S : Nat → va_E} {D : DM} {Q : MM} {B q a b i : Nat} (c : LC X G q0 L xs) (hi : i + 4 ≤ L) (hL : L ≤ 2048) (hS : LSt G S D Q) (hR : Rel B q D Q) (hB : B + 24 * q + 48 ≤ 80000) (ha : a + 8 ≤ 603072) (hb : b + 64 ≤ 7157866) (kk : ∀ S1 D1 Q1 B1 q1, LSt G S1 D1 Q1 → Rel B1 q1 D1 Q1 → B1 + 24 * q1 ≤ B + 24 * q + 48 → AW X G 9 126 3033 (LO G q0 i) [] S1 (a + 8) (b + 64)) : AW X G 9 126 1351 (LO G q0 i) [] S a b := by
  obtain ⟨h, hN, hX⟩ := c
  obtain ⟨hD, hQ, ⟨f4, h4⟩, f5, h5⟩ := id hS
  obtain ⟨t, t1, t2⟩ := hR.t
  refine r_aload_n (pc' := 1352) h dL_law_1351 rfl rfl ?_
  refine r_callVL (pc' := 1355) (st := []) (M := mX4_powerFactor) (As := []) h dL_law_1352 rfl lL_238 vX4_powerFactor rfl hD.l0 hD.o0 rfl rfl (by decide) ⟨by decide, by decide, by show a + 0 ≤ 603072; omega, by show b + 0 ≤ 7157866; omega⟩ (kX4_powerFactor hD ?_)
  show AW X G 9 126 1355 _ _ S _ _
  refine r_aload_n (pc' := 1356) h dL_law_1355 rfl rfl ?_
  refine r_callVL (pc' := 1359) (st := [.int _]) (M := mX5_powerFactor) (As := []) h dL_law_1356 rfl lL_241 vX5_powerFactor rfl hQ.l0 hQ.o rfl rfl (by show 1 + 0 ≤ 8; decide) ⟨by decide, by decide, by show a + 0 + 0 ≤ 603072; omega, by show b + 0 + 0 ≤ 7157866; omega⟩ (kX5_powerFactor hQ (fun S2 hQ2 hR3 => ?_))
  show AW X G 9 126 1359 _ _ S2 _ _
  exact r_icmp_eq (tgt := 3033) (pc' := 1362) h dL_law_1359 (by decide) rfl (fun _ => r_widen (by show a + 0 + 0 ≤ a + 8; omega) (by show b + 0 + 0 ≤ b + 64; omega) (kk S2 _ _ _ _ (hS.m hQ2 hR3) (hR.thr 0) (by omega))) (fun c => absurd (dr_fac hR) c)
theorem lc_21 {X : CX} {G : GX} {q0 L : Nat} {xs : Nat → Int32} {S : Nat → va_E} {D : DM} {Q : MM} {B q a b i : Nat} (c : LC X G q0 L xs) (hi : i + 4 ≤ L) (hL : L ≤ 2048) (hS : LSt G S D Q) (hR : Rel B q D Q) (hB : B + 24 * q + 48 ≤ 80000) (ha : a + 8 ≤ 603072) (hb : b + 64 ≤ 7157866) (kk : ∀ S1 D1 Q1 B1 q1, LSt G S1 D1 Q1 → Rel B1 q1 D1 Q1 → B1 + 24 * q1 ≤ B + 24 * q + 48 → AW X G 9 126 3033 (LO G q0 i) [] S1 (a + 8) (b + 64)) : AW X G 9 126 1364 (LO G q0 i) [] S a b := by
  obtain ⟨h, hN, hX⟩ := c
  obtain ⟨hD, hQ, ⟨f4, h4⟩, f5, h5⟩ := id hS
  obtain ⟨t, t1, t2⟩ := hR.t
  obtain ⟨hR2, hag⟩ := hR.rd (rd_wake hR.2.1.1 hR.2.1.2 (xs (i + 1)))
  refine r_aload_n (pc' := 1365) h dL_law_1364 rfl rfl ?_
  refine r_sarg (k := 1) (pc' := 1371) h hX dL_law_1365 dL_law_1366 dL_law_1368 dL_law_1369 dL_law_1370 rfl rfl rfl (by decide) (by omega) hL ?_
  refine r_aload_n (pc' := 1372) h dL_law_1371 rfl rfl ?_
  refine r_callSL (pc' := 1375) (st := []) (M := (yL_wakeLoss, cL_wakeLoss, 4, some .int)) (As := [.ref (ad G 0), .int (xs (i + 1)), .ref (ad G 124)]) h hN dL_law_1372 rfl lL_242 sL_wakeLoss rfl rfl (by decide) ⟨by decide, by decide, by show a + 1 ≤ 603072; omega, by show b + 6 ≤ 7157866; omega⟩ (kL_wakeLoss hD (by decide) h4 (fun K1 h1 => kX4_wakeLoss hD (h1 S hD DR.rfl')) hag (fun S1 g hD1 hf hg e1 => ?_))
  show AW X G 9 126 1375 _ _ S1 _ _
  have hS1 := hS.x hD1 hf hg
  have hQ1 : isM G 126 S1 Q := hS1.2.1
  refine r_istore (pc' := 1377) h dL_law_1375 rfl (by decide) rfl ?_
  refine r_aload_n (pc' := 1378) h dL_law_1377 rfl rfl ?_
  refine r_sarg (k := 1) (pc' := 1384) h hX dL_law_1378 dL_law_1379 dL_law_1381 dL_law_1382 dL_law_1383 rfl rfl rfl (by decide) (by omega) hL ?_
  refine r_callVL (pc' := 1387) (st := []) (M := mX5_wakeLoss) (As := [.int (xs (i + 1))]) h dL_law_1384 rfl lL_244 vX5_wakeLoss rfl hQ1.l0 hQ1.o rfl rfl (by decide) ⟨by decide, by decide, by show a + 1 + 0 ≤ 603072; omega, by show b + 6 + 0 ≤ 7157866; omega⟩ (kX5_wakeLoss hQ1 hR.w (fun S2 hQ2 hR3 => ?_))
  show AW X G 9 126 1387 _ _ S2 _ _
  refine r_istore (pc' := 1389) h dL_law_1387 rfl (by decide) rfl ?_
  exact r_tail (tgt := 3033) h hQ2 ((hR3 124 (by decide)).trans hg) rfl rfl rfl rfl rfl e1 dL_law_1389 dL_law_1390 dL_law_1393 dL_law_1395 dL_law_1400 dL_law_1402 dL_law_1405 dL_law_1406 dL_law_1407 dL_law_1408 dL_law_1410 dL_law_1411 dL_law_1412 dL_law_1417 (by decide) (by show a + 1 + 0 ≤ 603072; omega) (by show b + 6 + 0 ≤ 7157866; omega) rfl (r_widen (by show a + 1 + 0 ≤ a + 8; omega) (by show b + 6 + 0 ≤ b + 64; omega) (kk S2 _ _ _ _ (hS1.m hQ2 hR3) hR2 (by omega)))
theorem lc_22 {X : CX} {G : GX} {q0 L : Nat} {xs : Nat → Int32} {S : Nat → va_E} {D : DM} {Q : MM} {B q a b i : Nat} (c : LC X G q0 L xs) (hi : i + 4 ≤ L) (hL : L ≤ 2048) (hS : LSt G S D Q) (hR : Rel B q D Q) (hB : B + 24 * q + 48 ≤ 80000) (ha : a + 8 ≤ 603072) (hb : b + 64 ≤ 7157866) (kk : ∀ S1 D1 Q1 B1 q1, LSt G S1 D1 Q1 → Rel B1 q1 D1 Q1 → B1 + 24 * q1 ≤ B + 24 * q + 48 → AW X G 9 126 3033 (LO G q0 i) [] S1 (a + 8) (b + 64)) : AW X G 9 126 1420 (LO G q0 i) [] S a b := by
  obtain ⟨h, hN, hX⟩ := c
  obtain ⟨hD, hQ, ⟨f4, h4⟩, f5, h5⟩ := id hS
  obtain ⟨t, t1, t2⟩ := hR.t
  obtain ⟨hR2, hag⟩ := hR.rd (rd_av hR.2.1.1 hR.2.1.2 (xs (i + 1)))
  refine r_aload_n (pc' := 1421) h dL_law_1420 rfl rfl ?_
  refine r_sarg (k := 1) (pc' := 1427) h hX dL_law_1421 dL_law_1422 dL_law_1424 dL_law_1425 dL_law_1426 rfl rfl rfl (by decide) (by omega) hL ?_
  refine r_aload_n (pc' := 1428) h dL_law_1427 rfl rfl ?_
  refine r_callSL (pc' := 1431) (st := []) (M := (yL_availablePower, cL_availablePower, 4, some .int)) (As := [.ref (ad G 0), .int (xs (i + 1)), .ref (ad G 124)]) h hN dL_law_1428 rfl lL_245 sL_availablePower rfl rfl (by decide) ⟨by decide, by decide, by show a + 1 ≤ 603072; omega, by show b + 6 ≤ 7157866; omega⟩ (kL_availablePower hD (by decide) h4 (fun K1 h1 => kX4_availablePower hD (h1 S hD DR.rfl')) hag (fun S1 g hD1 hf hg e1 => ?_))
  show AW X G 9 126 1431 _ _ S1 _ _
  have hS1 := hS.x hD1 hf hg
  have hQ1 : isM G 126 S1 Q := hS1.2.1
  refine r_istore (pc' := 1433) h dL_law_1431 rfl (by decide) rfl ?_
  refine r_aload_n (pc' := 1434) h dL_law_1433 rfl rfl ?_
  refine r_sarg (k := 1) (pc' := 1440) h hX dL_law_1434 dL_law_1435 dL_law_1437 dL_law_1438 dL_law_1439 rfl rfl rfl (by decide) (by omega) hL ?_
  refine r_callVL (pc' := 1443) (st := []) (M := mX5_availablePower) (As := [.int (xs (i + 1))]) h dL_law_1440 rfl lL_247 vX5_availablePower rfl hQ1.l0 hQ1.o rfl rfl (by decide) ⟨by decide, by decide, by show a + 1 + 0 ≤ 603072; omega, by show b + 6 + 0 ≤ 7157866; omega⟩ (kX5_availablePower hQ1 hR.w (fun S2 hQ2 hR3 => ?_))
  show AW X G 9 126 1443 _ _ S2 _ _
  refine r_istore (pc' := 1445) h dL_law_1443 rfl (by decide) rfl ?_
  exact r_tail (tgt := 3033) h hQ2 ((hR3 124 (by decide)).trans hg) rfl rfl rfl rfl rfl e1 dL_law_1445 dL_law_1446 dL_law_1449 dL_law_1451 dL_law_1456 dL_law_1458 dL_law_1461 dL_law_1462 dL_law_1463 dL_law_1464 dL_law_1466 dL_law_1467 dL_law_1468 dL_law_1473 (by decide) (by show a + 1 + 0 ≤ 603072; omega) (by show b + 6 + 0 ≤ 7157866; omega) rfl (r_widen (by show a + 1 + 0 ≤ a + 8; omega) (by show b + 6 + 0 ≤ b + 64; omega) (kk S2 _ _ _ _ (hS1.m hQ2 hR3) hR2 (by omega)))
theorem lc_23 {X : CX} {G : GX} {q0 L : Nat} {xs : Nat → Int32} {S : Nat → va_E} {D : DM} {Q : MM} {B q a b i : Nat} (c : LC X G q0 L xs) (hi : i + 4 ≤ L) (hL : L ≤ 2048) (hS : LSt G S D Q) (hR : Rel B q D Q) (hB : B + 24 * q + 48 ≤ 80000) (ha : a + 8 ≤ 603072) (hb : b + 64 ≤ 7157866) (kk : ∀ S1 D1 Q1 B1 q1, LSt G S1 D1 Q1 → Rel B1 q1 D1 Q1 → B1 + 24 * q1 ≤ B + 24 * q + 48 → AW X G 9 126 3033 (LO G q0 i) [] S1 (a + 8) (b + 64)) : AW X G 9 126 1476 (LO G q0 i) [] S a b := by
  obtain ⟨h, hN, hX⟩ := c
  obtain ⟨hD, hQ, ⟨f4, h4⟩, f5, h5⟩ := id hS
  obtain ⟨t, t1, t2⟩ := hR.t
  obtain ⟨hR2, hag⟩ := hR.rd (rd_out hR.2.1.1 hR.2.1.2 (xs (i + 1)))
  refine r_aload_n (pc' := 1477) h dL_law_1476 rfl rfl ?_
  refine r_sarg (k := 1) (pc' := 1483) h hX dL_law_1477 dL_law_1478 dL_law_1480 dL_law_1481 dL_law_1482 rfl rfl rfl (by decide) (by omega) hL ?_
  refine r_aload_n (pc' := 1484) h dL_law_1483 rfl rfl ?_
  refine r_callSL (pc' := 1487) (st := []) (M := (yL_outputOf, cL_outputOf, 4, some .int)) (As := [.ref (ad G 0), .int (xs (i + 1)), .ref (ad G 124)]) h hN dL_law_1484 rfl lL_248 sL_outputOf rfl rfl (by decide) ⟨by decide, by decide, by show a + 1 ≤ 603072; omega, by show b + 6 ≤ 7157866; omega⟩ (kL_outputOf hD (by decide) h4 (fun K1 h1 => kX4_outputOf hD (h1 S hD DR.rfl')) hag (fun S1 g hD1 hf hg e1 => ?_))
  show AW X G 9 126 1487 _ _ S1 _ _
  have hS1 := hS.x hD1 hf hg
  have hQ1 : isM G 126 S1 Q := hS1.2.1
  refine r_istore (pc' := 1489) h dL_law_1487 rfl (by decide) rfl ?_
  refine r_aload_n (pc' := 1490) h dL_law_1489 rfl rfl ?_
  refine r_sarg (k := 1) (pc' := 1496) h hX dL_law_1490 dL_law_1491 dL_law_1493 dL_law_1494 dL_law_1495 rfl rfl rfl (by decide) (by omega) hL ?_
  refine r_callVL (pc' := 1499) (st := []) (M := mX5_outputOf) (As := [.int (xs (i + 1))]) h dL_law_1496 rfl lL_250 vX5_outputOf rfl hQ1.l0 hQ1.o rfl rfl (by decide) ⟨by decide, by decide, by show a + 1 + 0 ≤ 603072; omega, by show b + 6 + 0 ≤ 7157866; omega⟩ (kX5_outputOf hQ1 hR.w (fun S2 hQ2 hR3 => ?_))
  show AW X G 9 126 1499 _ _ S2 _ _
  refine r_istore (pc' := 1501) h dL_law_1499 rfl (by decide) rfl ?_
  exact r_tail (tgt := 3033) h hQ2 ((hR3 124 (by decide)).trans hg) rfl rfl rfl rfl rfl e1 dL_law_1501 dL_law_1502 dL_law_1505 dL_law_1507 dL_law_1512 dL_law_1514 dL_law_1517 dL_law_1518 dL_law_1519 dL_law_1520 dL_law_1522 dL_law_1523 dL_law_1524 dL_law_1529 (by decide) (by show a + 1 + 0 ≤ 603072; omega) (by show b + 6 + 0 ≤ 7157866; omega) rfl (r_widen (by show a + 1 + 0 ≤ a + 8; omega) (by show b + 6 + 0 ≤ b + 64; omega) (kk S2 _ _ _ _ (hS1.m hQ2 hR3) hR2 (by omega)))
theorem lc_24 {X : CX} {G : GX} {q0 L : Nat} {xs : Nat → Int32} {S : Nat → va_E} {D : DM} {Q : MM} {B q a b i : Nat} (c : LC X G q0 L xs) (hi : i + 4 ≤ L) (hL : L ≤ 2048) (hS : LSt G S D Q) (hR : Rel B q D Q) (hB : B + 24 * q + 48 ≤ 80000) (ha : a + 8 ≤ 603072) (hb : b + 64 ≤ 7157866) (kk : ∀ S1 D1 Q1 B1 q1, LSt G S1 D1 Q1 → Rel B1 q1 D1 Q1 → B1 + 24 * q1 ≤ B + 24 * q + 48 → AW X G 9 126 3033 (LO G q0 i) [] S1 (a + 8) (b + 64)) : AW X G 9 126 1532 (LO G q0 i) [] S a b := by
  obtain ⟨h, hN, hX⟩ := c
  obtain ⟨hD, hQ, ⟨f4, h4⟩, f5, h5⟩ := id hS
  obtain ⟨t, t1, t2⟩ := hR.t
  refine r_aload_n (pc' := 1533) h dL_law_1532 rfl rfl ?_
  refine r_callVL (pc' := 1536) (st := []) (M := mX4_totalOutput) (As := []) h dL_law_1533 rfl lL_251 vX4_totalOutput rfl hD.l0 hD.o0 rfl rfl (by decide) ⟨by decide, by decide, by show a + 0 ≤ 603072; omega, by show b + 0 ≤ 7157866; omega⟩ (kX4_totalOutput hD (dr_wF hR) ?_)
  show AW X G 9 126 1536 _ _ S _ _
  refine r_aload_n (pc' := 1537) h dL_law_1536 rfl rfl ?_
  refine r_callVL (pc' := 1540) (st := [.int _]) (M := mX5_totalOutput) (As := []) h dL_law_1537 rfl lL_254 vX5_totalOutput rfl hQ.l0 hQ.o rfl rfl (by show 1 + 0 ≤ 8; decide) ⟨by decide, by decide, by show a + 0 + 0 ≤ 603072; omega, by show b + 0 + 0 ≤ 7157866; omega⟩ (kX5_totalOutput hQ hR.w (fun S2 hQ2 hR3 => ?_))
  show AW X G 9 126 1540 _ _ S2 _ _
  exact r_icmp_eq (tgt := 3033) (pc' := 1543) h dL_law_1540 (by decide) rfl (fun _ => r_widen (by show a + 0 + 0 ≤ a + 8; omega) (by show b + 0 + 0 ≤ b + 64; omega) (kk S2 _ _ _ _ (hS.m hQ2 hR3) (hR.thr 0) (by omega))) (fun c => absurd (dr_total hR) c)
theorem lc_25 {X : CX} {G : GX} {q0 L : Nat} {xs : Nat → Int32} {S : Nat → va_E} {D : DM} {Q : MM} {B q a b i : Nat} (c : LC X G q0 L xs) (hi : i + 4 ≤ L) (hL : L ≤ 2048) (hS : LSt G S D Q) (hR : Rel B q D Q) (hB : B + 24 * q + 48 ≤ 80000) (ha : a + 8 ≤ 603072) (hb : b + 64 ≤ 7157866) (kk : ∀ S1 D1 Q1 B1 q1, LSt G S1 D1 Q1 → Rel B1 q1 D1 Q1 → B1 + 24 * q1 ≤ B + 24 * q + 48 → AW X G 9 126 3033 (LO G q0 i) [] S1 (a + 8) (b + 64)) : AW X G 9 126 1545 (LO G q0 i) [] S a b := by
  obtain ⟨h, hN, hX⟩ := c
  obtain ⟨hD, hQ, ⟨f4, h4⟩, f5, h5⟩ := id hS
  obtain ⟨t, t1, t2⟩ := hR.t
  refine r_aload_n (pc' := 1546) h dL_law_1545 rfl rfl ?_
  refine r_callVL (pc' := 1549) (st := []) (M := mX4_totalOutputByLines) (As := []) h dL_law_1546 rfl lL_255 vX4_totalOutputByLines rfl hD.l0 hD.o0 rfl rfl (by decide) ⟨by decide, by decide, by show a + 0 ≤ 603072; omega, by show b + 0 ≤ 7157866; omega⟩ (kX4_totalOutputByLines hD ?_)
  show AW X G 9 126 1549 _ _ S _ _
  refine r_aload_n (pc' := 1550) h dL_law_1549 rfl rfl ?_
  refine r_callVL (pc' := 1553) (st := [.int _]) (M := mX5_totalOutputByLines) (As := []) h dL_law_1550 rfl lL_258 vX5_totalOutputByLines rfl hQ.l0 hQ.o rfl rfl (by show 1 + 0 ≤ 8; decide) ⟨by decide, by decide, by show a + 0 + 0 ≤ 603072; omega, by show b + 0 + 0 ≤ 7157866; omega⟩ (kX5_totalOutputByLines hQ hR.w (fun S2 hQ2 hR3 => ?_))
  show AW X G 9 126 1553 _ _ S2 _ _
  exact r_icmp_eq (tgt := 3033) (pc' := 1556) h dL_law_1553 (by decide) rfl (fun _ => r_widen (by show a + 0 + 0 ≤ a + 8; omega) (by show b + 0 + 0 ≤ b + 64; omega) (kk S2 _ _ _ _ (hS.m hQ2 hR3) (hR.thr 0) (by omega))) (fun c => absurd (dr_lines hR) c)
theorem lc_26 {X : CX} {G : GX} {q0 L : Nat} {xs : Nat → Int32} {S : Nat → va_E} {D : DM} {Q : MM} {B q a b i : Nat} (c : LC X G q0 L xs) (hi : i + 4 ≤ L) (hL : L ≤ 2048) (hS : LSt G S D Q) (hR : Rel B q D Q) (hB : B + 24 * q + 48 ≤ 80000) (ha : a + 8 ≤ 603072) (hb : b + 64 ≤ 7157866) (kk : ∀ S1 D1 Q1 B1 q1, LSt G S1 D1 Q1 → Rel B1 q1 D1 Q1 → B1 + 24 * q1 ≤ B + 24 * q + 48 → AW X G 9 126 3033 (LO G q0 i) [] S1 (a + 8) (b + 64)) : AW X G 9 126 1558 (LO G q0 i) [] S a b := by
  obtain ⟨h, hN, hX⟩ := c
  obtain ⟨hD, hQ, ⟨f4, h4⟩, f5, h5⟩ := id hS
  obtain ⟨t, t1, t2⟩ := hR.t
  obtain ⟨hR2, hag⟩ := hR.rd (rd_ow hR.2.1.1 hR.2.1.2 (chr (xs (i + 1))) (xs (i + 2)))
  refine r_aload_n (pc' := 1559) h dL_law_1558 rfl rfl ?_
  refine r_sarg (k := 1) (pc' := 1565) h hX dL_law_1559 dL_law_1560 dL_law_1562 dL_law_1563 dL_law_1564 rfl rfl rfl (by decide) (by omega) hL ?_
  refine r_i2c (pc' := 1566) h dL_law_1565 rfl ?_
  refine r_sarg (k := 2) (pc' := 1572) h hX dL_law_1566 dL_law_1567 dL_law_1569 dL_law_1570 dL_law_1571 rfl rfl rfl (by decide) (by omega) hL ?_
  refine r_aload_n (pc' := 1573) h dL_law_1572 rfl rfl ?_
  refine r_callSL (pc' := 1576) (st := []) (M := (yL_outputWith, cL_outputWith, 5, some .int)) (As := [.ref (ad G 0), .int (chr (xs (i + 1))), .int (xs (i + 2)), .ref (ad G 124)]) h hN dL_law_1573 rfl lL_259 sL_outputWith rfl rfl (by decide) ⟨by decide, by decide, by show a + 1 ≤ 603072; omega, by show b + 6 ≤ 7157866; omega⟩ (kL_outputWith hD (by decide) h4 (fun K1 h1 => kX4_outputWith hD (dr_wF hR) (h1 S hD DR.rfl')) hag (fun S1 g hD1 hf hg e1 => ?_))
  show AW X G 9 126 1576 _ _ S1 _ _
  have hS1 := hS.x hD1 hf hg
  have hQ1 : isM G 126 S1 Q := hS1.2.1
  refine r_istore (pc' := 1578) h dL_law_1576 rfl (by decide) rfl ?_
  refine r_aload_n (pc' := 1579) h dL_law_1578 rfl rfl ?_
  refine r_sarg (k := 1) (pc' := 1585) h hX dL_law_1579 dL_law_1580 dL_law_1582 dL_law_1583 dL_law_1584 rfl rfl rfl (by decide) (by omega) hL ?_
  refine r_i2c (pc' := 1586) h dL_law_1585 rfl ?_
  refine r_sarg (k := 2) (pc' := 1592) h hX dL_law_1586 dL_law_1587 dL_law_1589 dL_law_1590 dL_law_1591 rfl rfl rfl (by decide) (by omega) hL ?_
  refine r_callVL (pc' := 1595) (st := []) (M := mX5_outputWith) (As := [.int (chr (xs (i + 1))), .int (xs (i + 2))]) h dL_law_1592 rfl lL_261 vX5_outputWith rfl hQ1.l0 hQ1.o rfl rfl (by decide) ⟨by decide, by decide, by show a + 1 + 0 ≤ 603072; omega, by show b + 6 + 0 ≤ 7157866; omega⟩ (kX5_outputWith hQ1 hR.w (fun S2 hQ2 hR3 => ?_))
  show AW X G 9 126 1595 _ _ S2 _ _
  refine r_istore (pc' := 1597) h dL_law_1595 rfl (by decide) rfl ?_
  exact r_tail (tgt := 3033) h hQ2 ((hR3 124 (by decide)).trans hg) rfl rfl rfl rfl rfl e1 dL_law_1597 dL_law_1598 dL_law_1601 dL_law_1603 dL_law_1608 dL_law_1610 dL_law_1613 dL_law_1614 dL_law_1615 dL_law_1616 dL_law_1618 dL_law_1619 dL_law_1620 dL_law_1625 (by decide) (by show a + 1 + 0 ≤ 603072; omega) (by show b + 6 + 0 ≤ 7157866; omega) rfl (r_widen (by show a + 1 + 0 ≤ a + 8; omega) (by show b + 6 + 0 ≤ b + 64; omega) (kk S2 _ _ _ _ (hS1.m hQ2 hR3) hR2 (by omega)))
theorem lc_27 {X : CX} {G : GX} {q0 L : Nat} {xs : Nat → Int32} {S : Nat → va_E} {D : DM} {Q : MM} {B q a b i : Nat} (c : LC X G q0 L xs) (hi : i + 4 ≤ L) (hL : L ≤ 2048) (hS : LSt G S D Q) (hR : Rel B q D Q) (hB : B + 24 * q + 48 ≤ 80000) (ha : a + 8 ≤ 603072) (hb : b + 64 ≤ 7157866) (kk : ∀ S1 D1 Q1 B1 q1, LSt G S1 D1 Q1 → Rel B1 q1 D1 Q1 → B1 + 24 * q1 ≤ B + 24 * q + 48 → AW X G 9 126 3033 (LO G q0 i) [] S1 (a + 8) (b + 64)) : AW X G 9 126 1628 (LO G q0 i) [] S a b := by
  obtain ⟨h, hN, hX⟩ := c
  obtain ⟨hD, hQ, ⟨f4, h4⟩, f5, h5⟩ := id hS
  obtain ⟨t, t1, t2⟩ := hR.t
  refine r_aload_n (pc' := 1629) h dL_law_1628 rfl rfl ?_
  refine r_callVL (pc' := 1632) (st := []) (M := mX4_bestDirection) (As := []) h dL_law_1629 rfl lL_262 vX4_bestDirection rfl hD.l0 hD.o0 rfl rfl (by decide) ⟨by decide, by decide, by show a + 0 ≤ 603072; omega, by show b + 0 ≤ 7157866; omega⟩ (kX4_bestDirection hD (dr_wF hR) ?_)
  show AW X G 9 126 1632 _ _ S _ _
  refine r_aload_n (pc' := 1633) h dL_law_1632 rfl rfl ?_
  refine r_callVL (pc' := 1636) (st := [.int _]) (M := mX5_bestDirection) (As := []) h dL_law_1633 rfl lL_265 vX5_bestDirection rfl hQ.l0 hQ.o rfl rfl (by show 1 + 0 ≤ 8; decide) ⟨by decide, by decide, by show a + 0 + 0 ≤ 603072; omega, by show b + 0 + 0 ≤ 7157866; omega⟩ (kX5_bestDirection hQ hR.w (fun S2 hQ2 hR3 => ?_))
  show AW X G 9 126 1636 _ _ S2 _ _
  exact r_icmp_eq (tgt := 3033) (pc' := 1639) h dL_law_1636 (by decide) rfl (fun _ => r_widen (by show a + 0 + 0 ≤ a + 8; omega) (by show b + 0 + 0 ≤ b + 64; omega) (kk S2 _ _ _ _ (hS.m hQ2 hR3) (hR.thr 0) (by omega))) (fun c => absurd (dr_best hR) c)
theorem lc_28 {X : CX} {G : GX} {q0 L : Nat} {xs : Nat → Int32} {S : Nat → va_E} {D : DM} {Q : MM} {B q a b i : Nat} (c : LC X G q0 L xs) (hi : i + 4 ≤ L) (hL : L ≤ 2048) (hS : LSt G S D Q) (hR : Rel B q D Q) (hB : B + 24 * q + 48 ≤ 80000) (ha : a + 8 ≤ 603072) (hb : b + 64 ≤ 7157866) (kk : ∀ S1 D1 Q1 B1 q1, LSt G S1 D1 Q1 → Rel B1 q1 D1 Q1 → B1 + 24 * q1 ≤ B + 24 * q + 48 → AW X G 9 126 3033 (LO G q0 i) [] S1 (a + 8) (b + 64)) : AW X G 9 126 1641 (LO G q0 i) [] S a b := by
  obtain ⟨h, hN, hX⟩ := c
  obtain ⟨hD, hQ, ⟨f4, h4⟩, f5, h5⟩ := id hS
  obtain ⟨t, t1, t2⟩ := hR.t
  obtain ⟨hR2, hag⟩ := chg_grid hR (xs (i + 1))
  refine r_aload_n (pc' := 1642) h dL_law_1641 rfl rfl ?_
  refine r_sarg (k := 1) (pc' := 1648) h hX dL_law_1642 dL_law_1643 dL_law_1645 dL_law_1646 dL_law_1647 rfl rfl rfl (by decide) (by omega) hL ?_
  refine r_aload_n (pc' := 1649) h dL_law_1648 rfl rfl ?_
  refine r_callSL (pc' := 1652) (st := []) (M := (yL_setGridLimit, cL_setGridLimit, 4, some .int)) (As := [.ref (ad G 0), .int (xs (i + 1)), .ref (ad G 124)]) h hN dL_law_1649 rfl lL_266 sL_setGridLimit rfl rfl (by decide) ⟨by decide, by decide, by show a + 3 ≤ 603072; omega, by show b + 18 ≤ 7157866; omega⟩ (kL_setGridLimit hD (by decide) h4 hR.v hag (fun S1 g hD1 hf hg e1 => ?_))
  show AW X G 9 126 1652 _ _ S1 _ _
  have hS1 := hS.x hD1 hf hg
  have hQ1 : isM G 126 S1 Q := hS1.2.1
  refine r_istore (pc' := 1654) h dL_law_1652 rfl (by decide) rfl ?_
  refine r_aload_n (pc' := 1655) h dL_law_1654 rfl rfl ?_
  refine r_sarg (k := 1) (pc' := 1661) h hX dL_law_1655 dL_law_1656 dL_law_1658 dL_law_1659 dL_law_1660 rfl rfl rfl (by decide) (by omega) hL ?_
  refine r_callVL (pc' := 1664) (st := []) (M := mX5_setGridLimit) (As := [.int (xs (i + 1))]) h dL_law_1661 rfl lL_268 vX5_setGridLimit rfl hQ1.l0 hQ1.o rfl rfl (by decide) ⟨by decide, by decide, by show a + 3 + 0 ≤ 603072; omega, by show b + 18 + 0 ≤ 7157866; omega⟩ (kX5_setGridLimit hQ1 hR.w hR.c (fun S2 hQ2 hR3 => ?_))
  show AW X G 9 126 1664 _ _ S2 _ _
  refine r_istore (pc' := 1666) h dL_law_1664 rfl (by decide) rfl ?_
  exact r_tail (tgt := 3033) h hQ2 ((hR3 124 (by decide)).trans hg) rfl rfl rfl rfl rfl e1 dL_law_1666 dL_law_1667 dL_law_1670 dL_law_1672 dL_law_1677 dL_law_1679 dL_law_1682 dL_law_1683 dL_law_1684 dL_law_1685 dL_law_1687 dL_law_1688 dL_law_1689 dL_law_1694 (by decide) (by show a + 3 + 0 ≤ 603072; omega) (by show b + 18 + 0 ≤ 7157866; omega) rfl (r_widen (by show a + 3 + 0 ≤ a + 8; omega) (by show b + 18 + 0 ≤ b + 64; omega) (kk S2 _ _ _ _ (hS1.m hQ2 hR3) hR2 (by omega)))
theorem lc_29 {X : CX} {G : GX} {q0 L : Nat} {xs : Nat → Int32} {S : Nat → va_E} {D : DM} {Q : MM} {B q a b i : Nat} (c : LC X G q0 L xs) (hi : i + 4 ≤ L) (hL : L ≤ 2048) (hS : LSt G S D Q) (hR : Rel B q D Q) (hB : B + 24 * q + 48 ≤ 80000) (ha : a + 8 ≤ 603072) (hb : b + 64 ≤ 7157866) (kk : ∀ S1 D1 Q1 B1 q1, LSt G S1 D1 Q1 → Rel B1 q1 D1 Q1 → B1 + 24 * q1 ≤ B + 24 * q + 48 → AW X G 9 126 3033 (LO G q0 i) [] S1 (a + 8) (b + 64)) : AW X G 9 126 1697 (LO G q0 i) [] S a b := by
  obtain ⟨h, hN, hX⟩ := c
  obtain ⟨hD, hQ, ⟨f4, h4⟩, f5, h5⟩ := id hS
  obtain ⟨t, t1, t2⟩ := hR.t
  refine r_aload_n (pc' := 1698) h dL_law_1697 rfl rfl ?_
  refine r_callVL (pc' := 1701) (st := []) (M := mX4_gridLimit) (As := []) h dL_law_1698 rfl lL_269 vX4_gridLimit rfl hD.l0 hD.o0 rfl rfl (by decide) ⟨by decide, by decide, by show a + 0 ≤ 603072; omega, by show b + 0 ≤ 7157866; omega⟩ (kX4_gridLimit hD ?_)
  show AW X G 9 126 1701 _ _ S _ _
  refine r_aload_n (pc' := 1702) h dL_law_1701 rfl rfl ?_
  refine r_callVL (pc' := 1705) (st := [.int _]) (M := mX5_gridLimit) (As := []) h dL_law_1702 rfl lL_272 vX5_gridLimit rfl hQ.l0 hQ.o rfl rfl (by show 1 + 0 ≤ 8; decide) ⟨by decide, by decide, by show a + 0 + 0 ≤ 603072; omega, by show b + 0 + 0 ≤ 7157866; omega⟩ (kX5_gridLimit hQ (fun S2 hQ2 hR3 => ?_))
  show AW X G 9 126 1705 _ _ S2 _ _
  exact r_icmp_eq (tgt := 3033) (pc' := 1708) h dL_law_1705 (by decide) rfl (fun _ => r_widen (by show a + 0 + 0 ≤ a + 8; omega) (by show b + 0 + 0 ≤ b + 64; omega) (kk S2 _ _ _ _ (hS.m hQ2 hR3) (hR.thr 0) (by omega))) (fun c => absurd (dr_grid hR) c)
