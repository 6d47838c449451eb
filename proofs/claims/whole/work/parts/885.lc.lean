/-! THE LAW's calls 50 to 59. -/
theorem lc_50 {X : CX} {G : GX} {q0 L : Nat} {xs : Nat → Int32} {S : Nat → va_E} {D : DM} {Q : MM} {B q a b i : Nat} (c : LC X G q0 L xs) (hi : i + 4 ≤ L) (hL : L ≤ 2048) (hS : LSt G S D Q) (hR : Rel B q D Q) (hB : B + 24 * q + 48 ≤ 80000) (ha : a + 8 ≤ 603072) (hb : b + 64 ≤ 7157866) (kk : ∀ S1 D1 Q1 B1 q1, LSt G S1 D1 Q1 → Rel B1 q1 D1 Q1 → B1 + 24 * q1 ≤ B + 24 * q + 48 → AW X G 9 126 3033 (LO G q0 i) [] S1 (a + 8) (b + 64)) : AW X G 9 126 2529 (LO G q0 i) [] S a b := by
  obtain ⟨h, hN, hX⟩ := c
  obtain ⟨hD, hQ, ⟨f4, h4⟩, f5, h5⟩ := id hS
  obtain ⟨t, t1, t2⟩ := hR.t
  refine r_aload_n (pc' := 2530) h dL_law_2529 rfl rfl ?_
  refine r_callVL (pc' := 2533) (st := []) (M := mX4_isConsistent) (As := []) h dL_law_2530 rfl lL_344 vX4_isConsistent rfl hD.l0 hD.o0 rfl rfl (by decide) ⟨by decide, by decide, by show a + 0 ≤ 603072; omega, by show b + 0 ≤ 7157866; omega⟩ (kX4_isConsistent hD (dr_wF hR) ?_)
  show AW X G 9 126 2533 _ _ S _ _
  refine r_aload_n (pc' := 2534) h dL_law_2533 rfl rfl ?_
  refine r_callVL (pc' := 2537) (st := [.int _]) (M := mX5_isConsistent) (As := []) h dL_law_2534 rfl lL_348 vX5_isConsistent rfl hQ.l0 hQ.o rfl rfl (by show 1 + 0 ≤ 8; decide) ⟨by decide, by decide, by show a + 0 + 0 ≤ 603072; omega, by show b + 0 + 0 ≤ 7157866; omega⟩ (kX5_isConsistent hQ (fun S2 hQ2 hR3 => ?_))
  show AW X G 9 126 2537 _ _ S2 _ _
  exact r_icmp_eq (tgt := 3033) (pc' := 2540) h dL_law_2537 (by decide) rfl (fun _ => r_widen (by show a + 0 + 0 ≤ a + 8; omega) (by show b + 0 + 0 ≤ b + 64; omega) (kk S2 _ _ _ _ (hS.m hQ2 hR3) (hR.thr 0) (by omega))) (fun c => absurd (dr_con hR (by omega)) c)
theorem lc_51 {X : CX} {G : GX} {q0 L : Nat} {xs : Nat → Int32} {S : Nat → va_E} {D : DM} {Q : MM} {B q a b i : Nat} (c : LC X G q0 L xs) (hi : i + 4 ≤ L) (hL : L ≤ 2048) (hS : LSt G S D Q) (hR : Rel B q D Q) (hB : B + 24 * q + 48 ≤ 80000) (ha : a + 8 ≤ 603072) (hb : b + 64 ≤ 7157866) (kk : ∀ S1 D1 Q1 B1 q1, LSt G S1 D1 Q1 → Rel B1 q1 D1 Q1 → B1 + 24 * q1 ≤ B + 24 * q + 48 → AW X G 9 126 3033 (LO G q0 i) [] S1 (a + 8) (b + 64)) : AW X G 9 126 2542 (LO G q0 i) [] S a b := by
  obtain ⟨h, hN, hX⟩ := c
  obtain ⟨hD, hQ, ⟨f4, h4⟩, f5, h5⟩ := id hS
  obtain ⟨t, t1, t2⟩ := hR.t
  obtain ⟨hR2, hag⟩ := wt_rel hR (xs (i + 1))
  refine r_aload_n (pc' := 2543) h dL_law_2542 rfl rfl ?_
  refine r_sarg (k := 1) (pc' := 2549) h hX dL_law_2543 dL_law_2544 dL_law_2546 dL_law_2547 dL_law_2548 rfl rfl rfl (by decide) (by omega) hL ?_
  refine r_aload_n (pc' := 2550) h dL_law_2549 rfl rfl ?_
  refine r_callSL (pc' := 2553) (st := []) (M := (yL_writeTurbine, cL_writeTurbine, 4, some .int)) (As := [.ref (ad G 0), .int (xs (i + 1)), .ref (ad G 124)]) h hN dL_law_2550 rfl lL_349 sL_writeTurbine rfl rfl (by decide) ⟨by decide, by decide, by show a + 1 ≤ 603072; omega, by show b + 6 ≤ 7157866; omega⟩ (kL_writeTurbine hD (by decide) h4 (fun K1 h1 => kX4_writeTurbine hD hR.v h1) hag (fun S1 g hD1 hf hg e1 => ?_))
  show AW X G 9 126 2553 _ _ S1 _ _
  have hS1 := hS.x hD1 hf hg
  have hQ1 : isM G 126 S1 Q := hS1.2.1
  refine r_istore (pc' := 2555) h dL_law_2553 rfl (by decide) rfl ?_
  refine r_aload_n (pc' := 2556) h dL_law_2555 rfl rfl ?_
  refine r_sarg (k := 1) (pc' := 2562) h hX dL_law_2556 dL_law_2557 dL_law_2559 dL_law_2560 dL_law_2561 rfl rfl rfl (by decide) (by omega) hL ?_
  refine r_callVL (pc' := 2565) (st := []) (M := mX5_writeTurbine) (As := [.int (xs (i + 1))]) h dL_law_2562 rfl lL_351 vX5_writeTurbine rfl hQ1.l0 hQ1.o rfl rfl (by decide) ⟨by decide, by decide, by show a + 1 + 0 ≤ 603072; omega, by show b + 6 + 0 ≤ 7157866; omega⟩ (kX5_wT hR hQ1 (fun S2 hQ2 hR3 => ?_))
  show AW X G 9 126 2565 _ _ S2 _ _
  refine r_istore (pc' := 2567) h dL_law_2565 rfl (by decide) rfl ?_
  exact r_tail (tgt := 3033) h hQ2 ((hR3 124 (by decide)).trans hg) rfl rfl rfl rfl rfl e1 dL_law_2567 dL_law_2568 dL_law_2571 dL_law_2573 dL_law_2578 dL_law_2580 dL_law_2583 dL_law_2584 dL_law_2585 dL_law_2586 dL_law_2588 dL_law_2589 dL_law_2590 dL_law_2595 (by decide) (by show a + 1 + 0 ≤ 603072; omega) (by show b + 6 + 0 ≤ 7157866; omega) rfl (r_widen (by show a + 1 + 0 ≤ a + 8; omega) (by show b + 6 + 0 ≤ b + 64; omega) (kk S2 _ _ _ _ (hS1.m hQ2 hR3) hR2 (by omega)))
theorem lc_52 {X : CX} {G : GX} {q0 L : Nat} {xs : Nat → Int32} {S : Nat → va_E} {D : DM} {Q : MM} {B q a b i : Nat} (c : LC X G q0 L xs) (hi : i + 4 ≤ L) (hL : L ≤ 2048) (hS : LSt G S D Q) (hR : Rel B q D Q) (hB : B + 24 * q + 48 ≤ 80000) (ha : a + 8 ≤ 603072) (hb : b + 64 ≤ 7157866) (kk : ∀ S1 D1 Q1 B1 q1, LSt G S1 D1 Q1 → Rel B1 q1 D1 Q1 → B1 + 24 * q1 ≤ B + 24 * q + 48 → AW X G 9 126 3033 (LO G q0 i) [] S1 (a + 8) (b + 64)) : AW X G 9 126 2598 (LO G q0 i) [] S a b := by
  obtain ⟨h, hN, hX⟩ := c
  obtain ⟨hD, hQ, ⟨f4, h4⟩, f5, h5⟩ := id hS
  obtain ⟨t, t1, t2⟩ := hR.t
  obtain ⟨⟨z0, z1, z2, -⟩, zc⟩ := hR.2.2.2.2.2.2.2
  replace zc : ∀ i, narrow .char (.int (mL Q i)) = .int (mL Q i) := fun i => (zc i).1
  obtain ⟨hR2, hag⟩ := hR.rd (rd_oa hR (xs (i + 1)))
  refine r_aload_n (pc' := 2599) h dL_law_2598 rfl rfl ?_
  refine r_sarg (k := 1) (pc' := 2605) h hX dL_law_2599 dL_law_2600 dL_law_2602 dL_law_2603 dL_law_2604 rfl rfl rfl (by decide) (by omega) hL ?_
  refine r_aload_n (pc' := 2606) h dL_law_2605 rfl rfl ?_
  refine r_callSL (pc' := 2609) (st := []) (M := (yL_outputAt, cL_outputAt, 4, some .int)) (As := [.ref (ad G 0), .int (xs (i + 1)), .ref (ad G 124)]) h hN dL_law_2606 rfl lL_352 sL_outputAt rfl rfl (by decide) ⟨by decide, by decide, by show a + 1 ≤ 603072; omega, by show b + 6 ≤ 7157866; omega⟩ (kL_outputAt hD (by decide) h4 (fun K1 h1 => kX4_outputAt hD hR.1.2.2.2.2 (h1 S hD DR.rfl')) hag (fun S1 g hD1 hf hg e1 => ?_))
  show AW X G 9 126 2609 _ _ S1 _ _
  have hS1 := hS.x hD1 hf hg
  have hQ1 : isM G 126 S1 Q := hS1.2.1
  refine r_istore (pc' := 2611) h dL_law_2609 rfl (by decide) rfl ?_
  refine r_aload_n (pc' := 2612) h dL_law_2611 rfl rfl ?_
  refine r_sarg (k := 1) (pc' := 2618) h hX dL_law_2612 dL_law_2613 dL_law_2615 dL_law_2616 dL_law_2617 rfl rfl rfl (by decide) (by omega) hL ?_
  refine r_callVL (pc' := 2621) (st := []) (M := mX5_outputAt) (As := [.int (xs (i + 1))]) h dL_law_2618 rfl lL_354 vX5_outputAt rfl hQ1.l0 hQ1.o rfl rfl (by decide) ⟨by decide, by decide, by show a + 1 + 0 ≤ 603072; omega, by show b + 6 + 0 ≤ 7157866; omega⟩ (kX5_outputAt hQ1 z2 z1 zc (fun S2 hQ2 hR3 => ?_))
  show AW X G 9 126 2621 _ _ S2 _ _
  refine r_istore (pc' := 2623) h dL_law_2621 rfl (by decide) rfl ?_
  exact r_tail (tgt := 3033) h hQ2 ((hR3 124 (by decide)).trans hg) rfl rfl rfl rfl rfl e1 dL_law_2623 dL_law_2624 dL_law_2627 dL_law_2629 dL_law_2634 dL_law_2636 dL_law_2639 dL_law_2640 dL_law_2641 dL_law_2642 dL_law_2644 dL_law_2645 dL_law_2646 dL_law_2651 (by decide) (by show a + 1 + 0 ≤ 603072; omega) (by show b + 6 + 0 ≤ 7157866; omega) rfl (r_widen (by show a + 1 + 0 ≤ a + 8; omega) (by show b + 6 + 0 ≤ b + 64; omega) (kk S2 _ _ _ _ (hS1.m hQ2 hR3) hR2 (by omega)))
theorem lc_53 {X : CX} {G : GX} {q0 L : Nat} {xs : Nat → Int32} {S : Nat → va_E} {D : DM} {Q : MM} {B q a b i : Nat} (c : LC X G q0 L xs) (hi : i + 4 ≤ L) (hL : L ≤ 2048) (hS : LSt G S D Q) (hR : Rel B q D Q) (hB : B + 24 * q + 48 ≤ 80000) (ha : a + 8 ≤ 603072) (hb : b + 64 ≤ 7157866) (kk : ∀ S1 D1 Q1 B1 q1, LSt G S1 D1 Q1 → Rel B1 q1 D1 Q1 → B1 + 24 * q1 ≤ B + 24 * q + 48 → AW X G 9 126 3033 (LO G q0 i) [] S1 (a + 8) (b + 64)) : AW X G 9 126 2654 (LO G q0 i) [] S a b := by
  obtain ⟨h, hN, hX⟩ := c
  obtain ⟨hD, hQ, ⟨f4, h4⟩, f5, h5⟩ := id hS
  obtain ⟨t, t1, t2⟩ := hR.t
  obtain ⟨hR2, hag⟩ := ap_rel hR (chr (xs (i + 1)))
  refine r_aload_n (pc' := 2655) h dL_law_2654 rfl rfl ?_
  refine r_sarg (k := 1) (pc' := 2661) h hX dL_law_2655 dL_law_2656 dL_law_2658 dL_law_2659 dL_law_2660 rfl rfl rfl (by decide) (by omega) hL ?_
  refine r_i2c (pc' := 2662) h dL_law_2661 rfl ?_
  refine r_aload_n (pc' := 2663) h dL_law_2662 rfl rfl ?_
  refine r_callSL (pc' := 2666) (st := []) (M := (yL_appendInput, cL_appendInput, 4, some .int)) (As := [.ref (ad G 0), .int (chr (xs (i + 1))), .ref (ad G 124)]) h hN dL_law_2663 rfl lL_355 sL_appendInput rfl rfl (by decide) ⟨by decide, by decide, by show a + 2 ≤ 603072; omega, by show b + 12 ≤ 7157866; omega⟩ (kL_appendInput hD (by decide) h4 (fun K1 h1 => kX4_appendInput hD h1) hag (fun S1 g hD1 hf hg e1 => ?_))
  show AW X G 9 126 2666 _ _ S1 _ _
  have hS1 := hS.x hD1 hf hg
  have hQ1 : isM G 126 S1 Q := hS1.2.1
  refine r_istore (pc' := 2668) h dL_law_2666 rfl (by decide) rfl ?_
  refine r_aload_n (pc' := 2669) h dL_law_2668 rfl rfl ?_
  refine r_sarg (k := 1) (pc' := 2675) h hX dL_law_2669 dL_law_2670 dL_law_2672 dL_law_2673 dL_law_2674 rfl rfl rfl (by decide) (by omega) hL ?_
  refine r_i2c (pc' := 2676) h dL_law_2675 rfl ?_
  refine r_callVL (pc' := 2679) (st := []) (M := mX5_appendInput) (As := [.int (chr (xs (i + 1)))]) h dL_law_2676 rfl lL_358 vX5_appendInput rfl hQ1.l0 hQ1.o rfl rfl (by decide) ⟨by decide, by decide, by show a + 2 + 0 ≤ 603072; omega, by show b + 12 + 0 ≤ 7157866; omega⟩ (kX5_appendInput hQ1 hR.2.2.2.2.2.2.1.2.1 hR.2.2.2.2.2.2.1.1 (fun S2 hQ2 hR3 => ?_))
  show AW X G 9 126 2679 _ _ S2 _ _
  refine r_istore (pc' := 2681) h dL_law_2679 rfl (by decide) rfl ?_
  rcases hR2 with hR2 | hR2
  · exact r_tail (tgt := 3033) h hQ2 ((hR3 124 (by decide)).trans hg) rfl rfl rfl rfl rfl e1 dL_law_2681 dL_law_2682 dL_law_2685 dL_law_2687 dL_law_2692 dL_law_2694 dL_law_2697 dL_law_2698 dL_law_2699 dL_law_2700 dL_law_2702 dL_law_2703 dL_law_2704 dL_law_2709 (by decide) (by show a + 2 + 0 ≤ 603072; omega) (by show b + 12 + 0 ≤ 7157866; omega) rfl (r_widen (by show a + 2 + 0 ≤ a + 8; omega) (by show b + 12 + 0 ≤ b + 64; omega) (kk S2 _ _ _ _ (hS1.m hQ2 hR3) hR2 (by omega)))
  · exact r_tail (tgt := 3033) h hQ2 ((hR3 124 (by decide)).trans hg) rfl rfl rfl rfl rfl e1 dL_law_2681 dL_law_2682 dL_law_2685 dL_law_2687 dL_law_2692 dL_law_2694 dL_law_2697 dL_law_2698 dL_law_2699 dL_law_2700 dL_law_2702 dL_law_2703 dL_law_2704 dL_law_2709 (by decide) (by show a + 2 + 0 ≤ 603072; omega) (by show b + 12 + 0 ≤ 7157866; omega) rfl (r_widen (by show a + 2 + 0 ≤ a + 8; omega) (by show b + 12 + 0 ≤ b + 64; omega) (kk S2 _ _ _ _ (hS1.m hQ2 hR3) hR2 (by omega)))
theorem lc_54 {X : CX} {G : GX} {q0 L : Nat} {xs : Nat → Int32} {S : Nat → va_E} {D : DM} {Q : MM} {B q a b i : Nat} (c : LC X G q0 L xs) (hi : i + 4 ≤ L) (hL : L ≤ 2048) (hS : LSt G S D Q) (hR : Rel B q D Q) (hB : B + 24 * q + 48 ≤ 80000) (ha : a + 8 ≤ 603072) (hb : b + 64 ≤ 7157866) (kk : ∀ S1 D1 Q1 B1 q1, LSt G S1 D1 Q1 → Rel B1 q1 D1 Q1 → B1 + 24 * q1 ≤ B + 24 * q + 48 → AW X G 9 126 3033 (LO G q0 i) [] S1 (a + 8) (b + 64)) : AW X G 9 126 2712 (LO G q0 i) [] S a b := by
  obtain ⟨h, hN, hX⟩ := c
  obtain ⟨hD, hQ, ⟨f4, h4⟩, f5, h5⟩ := id hS
  obtain ⟨t, t1, t2⟩ := hR.t
  obtain ⟨n, w1, w2, W, w4, w5, w6, w7⟩ := ex_hyp hR (by omega)
  obtain ⟨hR2, hag⟩ := ex_rel hR (by omega)
  refine r_aload_n (pc' := 2713) h dL_law_2712 rfl rfl ?_
  refine r_aload_n (pc' := 2714) h dL_law_2713 rfl rfl ?_
  refine r_callSL (pc' := 2717) (st := []) (M := (yL_execute, cL_execute, 3, some .int)) (As := [.ref (ad G 0), .ref (ad G 124)]) h hN dL_law_2714 rfl lL_359 sL_execute rfl rfl (by decide) ⟨by decide, by decide, by show a + 3 ≤ 603072; omega, by show b + 18 ≤ 7157866; omega⟩ (kL_execute hD (by decide) h4 (fun K1 h1 => kX4_execute hD hR.v w1 w2 w4 w5 w6 w7 h1) hag (fun S1 g hD1 hf hg e1 => ?_))
  show AW X G 9 126 2717 _ _ S1 _ _
  have hS1 := hS.x hD1 hf hg
  have hQ1 : isM G 126 S1 Q := hS1.2.1
  refine r_istore (pc' := 2719) h dL_law_2717 rfl (by decide) rfl ?_
  refine r_aload_n (pc' := 2720) h dL_law_2719 rfl rfl ?_
  refine r_callVL (pc' := 2723) (st := []) (M := mX5_execute) (As := []) h dL_law_2720 rfl lL_361 vX5_execute rfl hQ1.l0 hQ1.o rfl rfl (by decide) ⟨by decide, by decide, by show a + 3 + 0 ≤ 603072; omega, by show b + 18 + 0 ≤ 7157866; omega⟩ (kX5_execute hQ1 rfl hR.c hR.2.2.2.2.2.2.1.2.1 hR.2.2.2.2.2.2.1.1 (ex_hyp5 hR (by omega)) (fun S2 hQ2 hR3 => ?_))
  show AW X G 9 126 2723 _ _ S2 _ _
  refine r_istore (pc' := 2725) h dL_law_2723 rfl (by decide) rfl ?_
  exact r_tail (tgt := 3033) h hQ2 ((hR3 124 (by decide)).trans hg) rfl rfl rfl rfl rfl e1 dL_law_2725 dL_law_2726 dL_law_2729 dL_law_2731 dL_law_2736 dL_law_2738 dL_law_2741 dL_law_2742 dL_law_2743 dL_law_2744 dL_law_2746 dL_law_2747 dL_law_2748 dL_law_2753 (by decide) (by show a + 3 + 0 ≤ 603072; omega) (by show b + 18 + 0 ≤ 7157866; omega) rfl (r_widen (by show a + 3 + 0 ≤ a + 8; omega) (by show b + 18 + 0 ≤ b + 64; omega) (kk S2 _ _ _ _ (hS1.m hQ2 hR3) hR2 (by omega)))
theorem lc_55 {X : CX} {G : GX} {q0 L : Nat} {xs : Nat → Int32} {S : Nat → va_E} {D : DM} {Q : MM} {B q a b i : Nat} (c : LC X G q0 L xs) (hi : i + 4 ≤ L) (hL : L ≤ 2048) (hS : LSt G S D Q) (hR : Rel B q D Q) (hB : B + 24 * q + 48 ≤ 80000) (ha : a + 8 ≤ 603072) (hb : b + 64 ≤ 7157866) (kk : ∀ S1 D1 Q1 B1 q1, LSt G S1 D1 Q1 → Rel B1 q1 D1 Q1 → B1 + 24 * q1 ≤ B + 24 * q + 48 → AW X G 9 126 3033 (LO G q0 i) [] S1 (a + 8) (b + 64)) : AW X G 9 126 2756 (LO G q0 i) [] S a b := by
  obtain ⟨h, hN, hX⟩ := c
  obtain ⟨hD, hQ, ⟨f4, h4⟩, f5, h5⟩ := id hS
  obtain ⟨t, t1, t2⟩ := hR.t
  obtain ⟨hR2, hag⟩ := hR.rd (rd_se hR)
  refine r_aload_n (pc' := 2757) h dL_law_2756 rfl rfl ?_
  refine r_aload_n (pc' := 2758) h dL_law_2757 rfl rfl ?_
  refine r_callSL (pc' := 2761) (st := []) (M := (yL_syntaxErrorOffset, cL_syntaxErrorOffset, 3, some .int)) (As := [.ref (ad G 0), .ref (ad G 124)]) h hN dL_law_2758 rfl lL_362 sL_syntaxErrorOffset rfl rfl (by decide) ⟨by decide, by decide, by show a + 1 ≤ 603072; omega, by show b + 6 ≤ 7157866; omega⟩ (kL_syntaxErrorOffset hD (by decide) h4 (fun K1 h1 => kX4_syntaxErrorOffset hD (h1 S hD DR.rfl')) hag (fun S1 g hD1 hf hg e1 => ?_))
  show AW X G 9 126 2761 _ _ S1 _ _
  have hS1 := hS.x hD1 hf hg
  have hQ1 : isM G 126 S1 Q := hS1.2.1
  refine r_istore (pc' := 2763) h dL_law_2761 rfl (by decide) rfl ?_
  refine r_aload_n (pc' := 2764) h dL_law_2763 rfl rfl ?_
  refine r_callVL (pc' := 2767) (st := []) (M := mX5_syntaxErrorOffset) (As := []) h dL_law_2764 rfl lL_364 vX5_syntaxErrorOffset rfl hQ1.l0 hQ1.o rfl rfl (by decide) ⟨by decide, by decide, by show a + 1 + 0 ≤ 603072; omega, by show b + 6 + 0 ≤ 7157866; omega⟩ (kX5_syntaxErrorOffset hQ1 (fun S2 hQ2 hR3 => ?_))
  show AW X G 9 126 2767 _ _ S2 _ _
  refine r_istore (pc' := 2769) h dL_law_2767 rfl (by decide) rfl ?_
  exact r_tail (tgt := 3033) h hQ2 ((hR3 124 (by decide)).trans hg) rfl rfl rfl rfl rfl e1 dL_law_2769 dL_law_2770 dL_law_2773 dL_law_2775 dL_law_2780 dL_law_2782 dL_law_2785 dL_law_2786 dL_law_2787 dL_law_2788 dL_law_2790 dL_law_2791 dL_law_2792 dL_law_2797 (by decide) (by show a + 1 + 0 ≤ 603072; omega) (by show b + 6 + 0 ≤ 7157866; omega) rfl (r_widen (by show a + 1 + 0 ≤ a + 8; omega) (by show b + 6 + 0 ≤ b + 64; omega) (kk S2 _ _ _ _ (hS1.m hQ2 hR3) hR2 (by omega)))
theorem lc_56 {X : CX} {G : GX} {q0 L : Nat} {xs : Nat → Int32} {S : Nat → va_E} {D : DM} {Q : MM} {B q a b i : Nat} (c : LC X G q0 L xs) (hi : i + 4 ≤ L) (hL : L ≤ 2048) (hS : LSt G S D Q) (hR : Rel B q D Q) (hB : B + 24 * q + 48 ≤ 80000) (ha : a + 8 ≤ 603072) (hb : b + 64 ≤ 7157866) (kk : ∀ S1 D1 Q1 B1 q1, LSt G S1 D1 Q1 → Rel B1 q1 D1 Q1 → B1 + 24 * q1 ≤ B + 24 * q + 48 → AW X G 9 126 3033 (LO G q0 i) [] S1 (a + 8) (b + 64)) : AW X G 9 126 2800 (LO G q0 i) [] S a b := by
  obtain ⟨h, hN, hX⟩ := c
  obtain ⟨hD, hQ, ⟨f4, h4⟩, f5, h5⟩ := id hS
  obtain ⟨t, t1, t2⟩ := hR.t
  obtain ⟨hR2, hag⟩ := hR.rd (rd_rr hR)
  refine r_aload_n (pc' := 2801) h dL_law_2800 rfl rfl ?_
  refine r_aload_n (pc' := 2802) h dL_law_2801 rfl rfl ?_
  refine r_callSL (pc' := 2805) (st := []) (M := (yL_rejectionReason, cL_rejectionReason, 3, some .int)) (As := [.ref (ad G 0), .ref (ad G 124)]) h hN dL_law_2802 rfl lL_365 sL_rejectionReason rfl rfl (by decide) ⟨by decide, by decide, by show a + 1 ≤ 603072; omega, by show b + 6 ≤ 7157866; omega⟩ (kL_rejectionReason hD (by decide) h4 (fun K1 h1 => kX4_rejectionReason hD (h1 S hD DR.rfl')) hag (fun S1 g hD1 hf hg e1 => ?_))
  show AW X G 9 126 2805 _ _ S1 _ _
  have hS1 := hS.x hD1 hf hg
  have hQ1 : isM G 126 S1 Q := hS1.2.1
  refine r_istore (pc' := 2807) h dL_law_2805 rfl (by decide) rfl ?_
  refine r_aload_n (pc' := 2808) h dL_law_2807 rfl rfl ?_
  refine r_callVL (pc' := 2811) (st := []) (M := mX5_rejectionReason) (As := []) h dL_law_2808 rfl lL_367 vX5_rejectionReason rfl hQ1.l0 hQ1.o rfl rfl (by decide) ⟨by decide, by decide, by show a + 1 + 0 ≤ 603072; omega, by show b + 6 + 0 ≤ 7157866; omega⟩ (kX5_rejectionReason hQ1 (fun S2 hQ2 hR3 => ?_))
  show AW X G 9 126 2811 _ _ S2 _ _
  refine r_istore (pc' := 2813) h dL_law_2811 rfl (by decide) rfl ?_
  exact r_tail (tgt := 3033) h hQ2 ((hR3 124 (by decide)).trans hg) rfl rfl rfl rfl rfl e1 dL_law_2813 dL_law_2814 dL_law_2817 dL_law_2819 dL_law_2824 dL_law_2826 dL_law_2829 dL_law_2830 dL_law_2831 dL_law_2832 dL_law_2834 dL_law_2835 dL_law_2836 dL_law_2841 (by decide) (by show a + 1 + 0 ≤ 603072; omega) (by show b + 6 + 0 ≤ 7157866; omega) rfl (r_widen (by show a + 1 + 0 ≤ a + 8; omega) (by show b + 6 + 0 ≤ b + 64; omega) (kk S2 _ _ _ _ (hS1.m hQ2 hR3) hR2 (by omega)))
theorem lc_57 {X : CX} {G : GX} {q0 L : Nat} {xs : Nat → Int32} {S : Nat → va_E} {D : DM} {Q : MM} {B q a b i : Nat} (c : LC X G q0 L xs) (hi : i + 4 ≤ L) (hL : L ≤ 2048) (hS : LSt G S D Q) (hR : Rel B q D Q) (hB : B + 24 * q + 48 ≤ 80000) (ha : a + 8 ≤ 603072) (hb : b + 64 ≤ 7157866) (kk : ∀ S1 D1 Q1 B1 q1, LSt G S1 D1 Q1 → Rel B1 q1 D1 Q1 → B1 + 24 * q1 ≤ B + 24 * q + 48 → AW X G 9 126 3033 (LO G q0 i) [] S1 (a + 8) (b + 64)) : AW X G 9 126 2844 (LO G q0 i) [] S a b := by
  obtain ⟨h, hN, hX⟩ := c
  obtain ⟨hD, hQ, ⟨f4, h4⟩, f5, h5⟩ := id hS
  obtain ⟨t, t1, t2⟩ := hR.t
  obtain ⟨hR2, hag⟩ := hR.rd (rd_rd hR)
  refine r_aload_n (pc' := 2845) h dL_law_2844 rfl rfl ?_
  refine r_aload_n (pc' := 2846) h dL_law_2845 rfl rfl ?_
  refine r_callSL (pc' := 2849) (st := []) (M := (yL_rejectionDetail, cL_rejectionDetail, 3, some .int)) (As := [.ref (ad G 0), .ref (ad G 124)]) h hN dL_law_2846 rfl lL_368 sL_rejectionDetail rfl rfl (by decide) ⟨by decide, by decide, by show a + 1 ≤ 603072; omega, by show b + 6 ≤ 7157866; omega⟩ (kL_rejectionDetail hD (by decide) h4 (fun K1 h1 => kX4_rejectionDetail hD (h1 S hD DR.rfl')) hag (fun S1 g hD1 hf hg e1 => ?_))
  show AW X G 9 126 2849 _ _ S1 _ _
  have hS1 := hS.x hD1 hf hg
  have hQ1 : isM G 126 S1 Q := hS1.2.1
  refine r_istore (pc' := 2851) h dL_law_2849 rfl (by decide) rfl ?_
  refine r_aload_n (pc' := 2852) h dL_law_2851 rfl rfl ?_
  refine r_callVL (pc' := 2855) (st := []) (M := mX5_rejectionDetail) (As := []) h dL_law_2852 rfl lL_370 vX5_rejectionDetail rfl hQ1.l0 hQ1.o rfl rfl (by decide) ⟨by decide, by decide, by show a + 1 + 0 ≤ 603072; omega, by show b + 6 + 0 ≤ 7157866; omega⟩ (kX5_rejectionDetail hQ1 (fun S2 hQ2 hR3 => ?_))
  show AW X G 9 126 2855 _ _ S2 _ _
  refine r_istore (pc' := 2857) h dL_law_2855 rfl (by decide) rfl ?_
  exact r_tail (tgt := 3033) h hQ2 ((hR3 124 (by decide)).trans hg) rfl rfl rfl rfl rfl e1 dL_law_2857 dL_law_2858 dL_law_2861 dL_law_2863 dL_law_2868 dL_law_2870 dL_law_2873 dL_law_2874 dL_law_2875 dL_law_2876 dL_law_2878 dL_law_2879 dL_law_2880 dL_law_2885 (by decide) (by show a + 1 + 0 ≤ 603072; omega) (by show b + 6 + 0 ≤ 7157866; omega) rfl (r_widen (by show a + 1 + 0 ≤ a + 8; omega) (by show b + 6 + 0 ≤ b + 64; omega) (kk S2 _ _ _ _ (hS1.m hQ2 hR3) hR2 (by omega)))
theorem lc_58 {X : CX} {G : GX} {q0 L : Nat} {xs : Nat → Int32} {S : Nat → va_E} {D : DM} {Q : MM} {B q a b i : Nat} (c : LC X G q0 L xs) (hi : i + 4 ≤ L) (hL : L ≤ 2048) (hS : LSt G S D Q) (hR : Rel B q D Q) (hB : B + 24 * q + 48 ≤ 80000) (ha : a + 8 ≤ 603072) (hb : b + 64 ≤ 7157866) (kk : ∀ S1 D1 Q1 B1 q1, LSt G S1 D1 Q1 → Rel B1 q1 D1 Q1 → B1 + 24 * q1 ≤ B + 24 * q + 48 → AW X G 9 126 3033 (LO G q0 i) [] S1 (a + 8) (b + 64)) : AW X G 9 126 2888 (LO G q0 i) [] S a b := by
  obtain ⟨h, hN, hX⟩ := c
  obtain ⟨hD, hQ, ⟨f4, h4⟩, f5, h5⟩ := id hS
  obtain ⟨t, t1, t2⟩ := hR.t
  obtain ⟨hR2, hag⟩ := hR.rd (rd_cr hR)
  refine r_aload_n (pc' := 2889) h dL_law_2888 rfl rfl ?_
  refine r_aload_n (pc' := 2890) h dL_law_2889 rfl rfl ?_
  refine r_callSL (pc' := 2893) (st := []) (M := (yL_causeReason, cL_causeReason, 3, some .int)) (As := [.ref (ad G 0), .ref (ad G 124)]) h hN dL_law_2890 rfl lL_371 sL_causeReason rfl rfl (by decide) ⟨by decide, by decide, by show a + 1 ≤ 603072; omega, by show b + 6 ≤ 7157866; omega⟩ (kL_causeReason hD (by decide) h4 (fun K1 h1 => kX4_causeReason hD (h1 S hD DR.rfl')) hag (fun S1 g hD1 hf hg e1 => ?_))
  show AW X G 9 126 2893 _ _ S1 _ _
  have hS1 := hS.x hD1 hf hg
  have hQ1 : isM G 126 S1 Q := hS1.2.1
  refine r_istore (pc' := 2895) h dL_law_2893 rfl (by decide) rfl ?_
  refine r_aload_n (pc' := 2896) h dL_law_2895 rfl rfl ?_
  refine r_callVL (pc' := 2899) (st := []) (M := mX5_causeReason) (As := []) h dL_law_2896 rfl lL_373 vX5_causeReason rfl hQ1.l0 hQ1.o rfl rfl (by decide) ⟨by decide, by decide, by show a + 1 + 0 ≤ 603072; omega, by show b + 6 + 0 ≤ 7157866; omega⟩ (kX5_causeReason hQ1 (fun S2 hQ2 hR3 => ?_))
  show AW X G 9 126 2899 _ _ S2 _ _
  refine r_istore (pc' := 2901) h dL_law_2899 rfl (by decide) rfl ?_
  exact r_tail (tgt := 3033) h hQ2 ((hR3 124 (by decide)).trans hg) rfl rfl rfl rfl rfl e1 dL_law_2901 dL_law_2902 dL_law_2905 dL_law_2907 dL_law_2912 dL_law_2914 dL_law_2917 dL_law_2918 dL_law_2919 dL_law_2920 dL_law_2922 dL_law_2923 dL_law_2924 dL_law_2929 (by decide) (by show a + 1 + 0 ≤ 603072; omega) (by show b + 6 + 0 ≤ 7157866; omega) rfl (r_widen (by show a + 1 + 0 ≤ a + 8; omega) (by show b + 6 + 0 ≤ b + 64; omega) (kk S2 _ _ _ _ (hS1.m hQ2 hR3) hR2 (by omega)))
theorem lc_59 {X : CX} {G : GX} {q0 L : Nat} {xs : Nat → Int32} {S : Nat → va_E} {D : DM} {Q : MM} {B q a b i : Nat} (c : LC X G q0 L xs) (hi : i + 4 ≤ L) (hL : L ≤ 2048) (hS : LSt G S D Q) (hR : Rel B q D Q) (hB : B + 24 * q + 48 ≤ 80000) (ha : a + 8 ≤ 603072) (hb : b + 64 ≤ 7157866) (kk : ∀ S1 D1 Q1 B1 q1, LSt G S1 D1 Q1 → Rel B1 q1 D1 Q1 → B1 + 24 * q1 ≤ B + 24 * q + 48 → AW X G 9 126 3033 (LO G q0 i) [] S1 (a + 8) (b + 64)) : AW X G 9 126 2932 (LO G q0 i) [] S a b := by
  obtain ⟨h, hN, hX⟩ := c
  obtain ⟨hD, hQ, ⟨f4, h4⟩, f5, h5⟩ := id hS
  obtain ⟨t, t1, t2⟩ := hR.t
  obtain ⟨hR2, hag⟩ := un_rel hR
  refine r_aload_n (pc' := 2933) h dL_law_2932 rfl rfl ?_
  refine r_aload_n (pc' := 2934) h dL_law_2933 rfl rfl ?_
  refine r_callSL (pc' := 2937) (st := []) (M := (yL_undo, cL_undo, 3, some .int)) (As := [.ref (ad G 0), .ref (ad G 124)]) h hN dL_law_2934 rfl lL_374 sL_undo rfl rfl (by decide) ⟨by decide, by decide, by show a + 1 ≤ 603072; omega, by show b + 6 ≤ 7157866; omega⟩ (kL_undo hD (by decide) h4 (fun K1 h1 => kX4_undo hD hR.v (un_ch hR) h1) hag (fun S1 g hD1 hf hg e1 => ?_))
  show AW X G 9 126 2937 _ _ S1 _ _
  have hS1 := hS.x hD1 hf hg
  have hQ1 : isM G 126 S1 Q := hS1.2.1
  refine r_istore (pc' := 2939) h dL_law_2937 rfl (by decide) rfl ?_
  refine r_aload_n (pc' := 2940) h dL_law_2939 rfl rfl ?_
  refine r_callVL (pc' := 2943) (st := []) (M := mX5_undo) (As := []) h dL_law_2940 rfl lL_376 vX5_undo rfl hQ1.l0 hQ1.o rfl rfl (by decide) ⟨by decide, by decide, by show a + 1 + 0 ≤ 603072; omega, by show b + 6 + 0 ≤ 7157866; omega⟩ (kX5_undo hQ1 hR.c (fun S2 hQ2 hR3 => ?_))
  show AW X G 9 126 2943 _ _ S2 _ _
  refine r_istore (pc' := 2945) h dL_law_2943 rfl (by decide) rfl ?_
  exact r_tail (tgt := 3033) h hQ2 ((hR3 124 (by decide)).trans hg) rfl rfl rfl rfl rfl e1 dL_law_2945 dL_law_2946 dL_law_2949 dL_law_2951 dL_law_2956 dL_law_2958 dL_law_2961 dL_law_2962 dL_law_2963 dL_law_2964 dL_law_2966 dL_law_2967 dL_law_2968 dL_law_2973 (by decide) (by show a + 1 + 0 ≤ 603072; omega) (by show b + 6 + 0 ≤ 7157866; omega) rfl (r_widen (by show a + 1 + 0 ≤ a + 8; omega) (by show b + 6 + 0 ≤ b + 64; omega) (kk S2 _ _ _ _ (hS1.m hQ2 hR3) hR2 (by omega)))
