/-! THE LAW's calls of means and shares. -/
theorem lc_48 {X : CX} {G : GX} {q0 L : Nat} {xs : Nat → Int32} {S : Nat → va_E} {D : DM} {Q : MM} {B q a b i : Nat} (c : LC X G q0 L xs) (hi : i + 4 ≤ L) (hL : L ≤ 2048) (hS : LSt G S D Q) (hR : Rel B q D Q) (hB : B + 24 * q + 48 ≤ 80000) (ha : a + 8 ≤ 603072) (hb : b + 64 ≤ 7157866) (kk : ∀ S1 D1 Q1 B1 q1, LSt G S1 D1 Q1 → Rel B1 q1 D1 Q1 → B1 + 24 * q1 ≤ B + 24 * q + 48 → AW X G 9 126 3033 (LO G q0 i) [] S1 (a + 8) (b + 64)) : AW X G 9 126 2398 (LO G q0 i) [] S a b := by
  obtain ⟨h, hN, hX⟩ := c
  obtain ⟨hD, hQ, ⟨f4, h4⟩, f5, h5⟩ := id hS
  obtain ⟨t, t1, t2⟩ := hR.t
  obtain ⟨n, n1, n2, n3, n4⟩ := dr_n hR
  obtain ⟨m, m1, m2, m3⟩ := dr_tot hR
  have np : ¬ nI n ≤ 0 → 0 < n := fun z => Nat.pos_of_ne_zero (fun e => z (by rw [e]; decide))
  obtain ⟨v, hv⟩ : ∃ v, v = FP.ddiv (FP.i2d (nI m)) (FP.i2d (nI n)) := ⟨_, rfl⟩
  obtain ⟨k0, hk0⟩ : ∃ k0 : Int32, k0 = if mM Q 0 ≤ 0 then 1 else 0 := ⟨_, rfl⟩
  obtain ⟨o, ho⟩ : ∃ o : RO, o = if fI (dF D 0) 0 ≤ 0 then .inr eX else .inl (some (.double (FP.ddiv (FP.i2d (sumI (dF D 0) (fI (dF D 0) 1) (fI (dF D 0) 2) (fN (dF D 0)))) (FP.i2d (fI (dF D 0) 0))))) := ⟨_, rfl⟩
  have hag : (o = .inl (some (.double v)) ∧ k0 = 0) ∨ (o = .inr eX ∧ k0 = 1) := by
    rw [ho, m2, n2, hk0, n3, hv]
    by_cases e : nI n ≤ 0
    · exact Or.inr ⟨if_pos e, if_pos e⟩
    · exact Or.inl ⟨if_neg e, if_neg e⟩
  have hn4 : ¬ fI (dF D 0) 0 ≤ 0 → vf_n64 (FP.ddiv (FP.i2d (sumI (dF D 0) (fI (dF D 0) 1) (fI (dF D 0) 2) (fN (dF D 0)))) (FP.i2d (fI (dF D 0) 0))) := fun z => by
    rw [n2] at z
    rw [m2, n2]
    exact fp_d (np z) (by omega) (by omega)
  have hn5 : ¬ mM Q 0 ≤ 0 → vf_n64 (FP.ddiv (FP.i2d (qTo (mM Q) (qN (mM Q)))) (FP.i2d (mM Q 0))) := fun z => by
    rw [n3] at z
    rw [m3, n3]
    exact fp_d (np z) (by omega) (by omega)
  obtain ⟨w, hw⟩ : ∃ w, w = if mM Q 0 ≤ 0 then FP.dconst0 else FP.ddiv (FP.i2d (qTo (mM Q) (qN (mM Q)))) (FP.i2d (mM Q 0)) := ⟨_, rfl⟩
  have ew : k0 = 0 → w = v := fun z => by
    have e : ¬ mM Q 0 ≤ 0 := fun e => by
      rw [hk0, if_pos e] at z
      exact absurd z (by decide)
    rw [hw, if_neg e, m3, n3, hv]
  refine r_aload_n (pc' := 2399) h dL_law_2398 rfl rfl ?_
  refine r_aload (pc' := 2401) h dL_law_2399 rfl rfl ?_
  refine r_callSL (pc' := 2404) (st := []) (M := (yL_meanOutput, cL_meanOutput, 3, some .int)) (As := [.ref (ad G 0), .ref (ad G 125)]) h hN dL_law_2401 rfl lL_337 sL_meanOutput rfl rfl (by decide) ⟨by decide, by decide, by show a + 1 ≤ 603072; omega, by show b + 6 ≤ 7157866; omega⟩ (kL_meanOutput hD (by decide) h5 (o := o) (fun K1 h1 => kX4_meanOutput hD (dr_wF hR) hn4 (by rw [← ho]; exact h1)) hag (fun S1 g hD1 hf hg e1 => ?_))
  show AW X G 9 126 2404 _ _ S1 _ _
  have hS1 := hS.xd hD1 hf hg
  have hQ1 : isM G 126 S1 Q := hS1.2.1
  refine r_istore (pc' := 2406) h dL_law_2404 rfl (by decide) rfl ?_
  refine r_aload_n (pc' := 2407) h dL_law_2406 rfl rfl ?_
  refine r_callVL (pc' := 2410) (st := []) (M := mX5_meanOutput) (As := []) h dL_law_2407 rfl lL_340 vX5_meanOutput rfl hQ1.l0 hQ1.o rfl rfl (by decide) ⟨by decide, by decide, by show a + 1 + 0 ≤ 603072; omega, by show b + 6 + 0 ≤ 7157866; omega⟩ (kX5_meanOutput hQ1 hR.w hn5 (fun S2 hQ2 hR3 => ?_))
  rw [← hw]
  rw [← hk0] at hQ2
  show AW X G 9 126 2410 _ _ S2 _ _
  have hg2 := (hR3 125 (by decide)).trans hg
  refine r_dstore (lo' := (7, .double w) :: LO G q0 i ++ [(6, .int k0)]) (pc' := 2412) h dL_law_2410 rfl (by decide) rfl ?_
  have fin : AW X G 9 126 2460 ((7, .double w) :: LO G q0 i ++ [(6, .int k0)]) [] S2 (a + 1 + 0) (b + 6 + 0) := by
    refine r_goto (tgt := 3033) h dL_law_2460 (by decide) (r_sub [1, 2, 3, 4, 5, 6] rfl (r_widen (by show a + 1 + 0 ≤ a + 8; omega) (by show b + 6 + 0 ≤ b + 64; omega) (kk S2 _ _ _ _ (hS1.m hQ2 hR3) (hR.thr _) (by omega))))
  refine r_aload_n (pc' := 2413) h dL_law_2412 rfl rfl ?_
  refine r_callVL (pc' := 2416) (st := []) (M := mX5_thrown) (As := []) h dL_law_2413 rfl lL_170 vX5_thrown rfl hQ2.l0 hQ2.o rfl rfl (by decide) ⟨by decide, by decide, by show a + 1 + 0 + 0 ≤ 603072; omega, by show b + 6 + 0 + 0 ≤ 7157866; omega⟩ (kX5_thrown hQ2 ?_)
  show AW X G 9 126 2416 _ [.int k0] S2 _ _
  refine r_iload (pc' := 2418) h dL_law_2416 rfl rfl ?_
  refine r_icmp_eq (tgt := 2423) (pc' := 2421) h dL_law_2418 (by decide) rfl (fun _ => ?_) (fun c => absurd rfl c)
  refine r_iload (pc' := 2425) h dL_law_2423 rfl rfl ?_
  refine r_if_ne (tgt := 2460) (pc' := 2428) h dL_law_2425 (by decide) rfl (fun _ => fin) (fun c => ?_)
  have eg : g (Int32.toNatClampNeg 0) = v := e1 c
  obtain ⟨c0, hc0⟩ : ∃ c0, c0 = Op.cmpValue (FP.dcmp v v) .l := ⟨_, rfl⟩
  have i0 : vp_in (nI 0) 1 := nI_in (by decide) (by decide)
  refine r_aload (pc' := 2430) h dL_law_2428 rfl rfl ?_
  refine r_iconst (pc' := 2431) (v := 0) h dL_law_2430 rfl (by decide) ?_
  refine r_dald (pc' := 2432) h dL_law_2431 rfl (by decide) hg2 (show vp_in (nI 0) 1 from i0) ?_
  refine r_dload (pc' := 2434) h dL_law_2432 rfl rfl ?_
  refine r_dcmp (pc' := 2435) h dL_law_2434 rfl ?_
  rw [show Op.cmpValue (FP.dcmp (g (Int32.toNatClampNeg 0)) w) .l = c0 from by rw [eg, ew c, hc0]]
  refine r_if_eq (tgt := 2460) (pc' := 2438) h dL_law_2435 (by decide) rfl (fun _ => fin) (fun cn => ?_)
  refine r_aload (pc' := 2440) h dL_law_2438 rfl rfl ?_
  refine r_iconst (pc' := 2441) (v := 0) h dL_law_2440 rfl (by decide) ?_
  refine r_dald (pc' := 2442) h dL_law_2441 rfl (by decide) hg2 (show vp_in (nI 0) 1 from i0) ?_
  refine r_aload (pc' := 2444) h dL_law_2442 rfl rfl ?_
  refine r_iconst (pc' := 2445) (v := 0) h dL_law_2444 rfl (by decide) ?_
  refine r_dald (pc' := 2446) h dL_law_2445 rfl (by decide) hg2 (show vp_in (nI 0) 1 from i0) ?_
  refine r_dcmp (pc' := 2447) h dL_law_2446 rfl ?_
  rw [show Op.cmpValue (FP.dcmp (g (Int32.toNatClampNeg 0)) (g (Int32.toNatClampNeg 0))) .l = c0 from by rw [eg, hc0]]
  refine r_if_eq (tgt := 2458) (pc' := 2450) h dL_law_2447 (by decide) rfl (fun z => absurd z cn) (fun _ => ?_)
  refine r_dload (pc' := 2452) h dL_law_2450 rfl rfl ?_
  refine r_dload (pc' := 2454) h dL_law_2452 rfl rfl ?_
  refine r_dcmp (pc' := 2455) h dL_law_2454 rfl ?_
  rw [show Op.cmpValue (FP.dcmp w w) .l = c0 from by rw [ew c, hc0]]
  exact r_if_ne (tgt := 2460) (pc' := 2458) h dL_law_2455 (by decide) rfl (fun _ => fin) (fun z => absurd z cn)
theorem lc_49 {X : CX} {G : GX} {q0 L : Nat} {xs : Nat → Int32} {S : Nat → va_E} {D : DM} {Q : MM} {B q a b i : Nat} (c : LC X G q0 L xs) (hi : i + 4 ≤ L) (hL : L ≤ 2048) (hS : LSt G S D Q) (hR : Rel B q D Q) (hB : B + 24 * q + 48 ≤ 80000) (ha : a + 8 ≤ 603072) (hb : b + 64 ≤ 7157866) (kk : ∀ S1 D1 Q1 B1 q1, LSt G S1 D1 Q1 → Rel B1 q1 D1 Q1 → B1 + 24 * q1 ≤ B + 24 * q + 48 → AW X G 9 126 3033 (LO G q0 i) [] S1 (a + 8) (b + 64)) : AW X G 9 126 2463 (LO G q0 i) [] S a b := by
  obtain ⟨h, hN, hX⟩ := c
  obtain ⟨hD, hQ, ⟨f4, h4⟩, f5, h5⟩ := id hS
  obtain ⟨t, t1, t2⟩ := hR.t
  obtain ⟨n, n1, n2, n3, n4⟩ := dr_n hR
  obtain ⟨m, m1, m2, m3⟩ := dr_run hR
  have np : ¬ nI n ≤ 0 → 0 < n := fun z => Nat.pos_of_ne_zero (fun e => z (by rw [e]; decide))
  obtain ⟨v, hv⟩ : ∃ v, v = FP.fdiv (FP.i2f (nI m)) (FP.i2f (nI n)) := ⟨_, rfl⟩
  obtain ⟨k0, hk0⟩ : ∃ k0 : Int32, k0 = if mM Q 0 ≤ 0 then 1 else 0 := ⟨_, rfl⟩
  obtain ⟨o, ho⟩ : ∃ o : RO, o = if fI (dF D 0) 0 ≤ 0 then .inr eX else .inl (some (.float (FP.fdiv (FP.i2f (cSt (dF D 0) 1 (fN (dF D 0)))) (FP.i2f (fI (dF D 0) 0))))) := ⟨_, rfl⟩
  have hag : (o = .inl (some (.float v)) ∧ k0 = 0 ∧ vf_n64 (FP.f2d v)) ∨ (o = .inr eX ∧ k0 = 1) := by
    rw [ho, m2, n2, hk0, n3, hv]
    by_cases e : nI n ≤ 0
    · exact Or.inr ⟨if_pos e, if_pos e⟩
    · exact Or.inl ⟨if_neg e, if_neg e, (fp_g n (by omega) m (by omega) (Nat.pos_iff_ne_zero.mp (np e))).1⟩
  have hn4 : ¬ fI (dF D 0) 0 ≤ 0 → vf_n32 (FP.fdiv (FP.i2f (cSt (dF D 0) 1 (fN (dF D 0)))) (FP.i2f (fI (dF D 0) 0))) := fun z => by
    rw [n2] at z
    rw [m2, n2]
    exact fp_f (np z) (by omega) (by omega)
  have hn5 : ¬ mM Q 0 ≤ 0 → vf_n32 (FP.fdiv (FP.i2f (qIS (mM Q) 0 (qN (mM Q)))) (FP.i2f (mM Q 0))) := fun z => by
    rw [n3] at z
    rw [m3, n3]
    exact fp_f (np z) (by omega) (by omega)
  obtain ⟨w, hw⟩ : ∃ w, w = if mM Q 0 ≤ 0 then FP.fconst0 else FP.fdiv (FP.i2f (qIS (mM Q) 0 (qN (mM Q)))) (FP.i2f (mM Q 0)) := ⟨_, rfl⟩
  have ew : k0 = 0 → w = v ∧ vf_n64 (FP.f2d v) ∧ FP.dcmp (FP.f2d v) (FP.f2d v) = some .eq := fun z => by
    have e : ¬ mM Q 0 ≤ 0 := fun e => by
      rw [hk0, if_pos e] at z
      exact absurd z (by decide)
    rw [n3] at e
    have g := fp_g n (by omega) m (by omega) (Nat.pos_iff_ne_zero.mp (np e))
    rw [hw, n3, if_neg e, m3, hv]
    exact ⟨rfl, g.1, g.2⟩
  refine r_aload_n (pc' := 2464) h dL_law_2463 rfl rfl ?_
  refine r_aload (pc' := 2466) h dL_law_2464 rfl rfl ?_
  refine r_callSL (pc' := 2469) (st := []) (M := (yL_runningShare, cL_runningShare, 3, some .int)) (As := [.ref (ad G 0), .ref (ad G 125)]) h hN dL_law_2466 rfl lL_341 sL_runningShare rfl rfl (by decide) ⟨by decide, by decide, by show a + 1 ≤ 603072; omega, by show b + 6 ≤ 7157866; omega⟩ (kL_runningShare hD (by decide) h5 (o := o) (fun K1 h1 => kX4_runningShare hD (dr_wF hR) hn4 (by rw [← ho]; exact h1)) hag (fun S1 g hD1 hf hg e1 => ?_))
  show AW X G 9 126 2469 _ _ S1 _ _
  have hS1 := hS.xd hD1 hf hg
  have hQ1 : isM G 126 S1 Q := hS1.2.1
  refine r_istore (pc' := 2471) h dL_law_2469 rfl (by decide) rfl ?_
  refine r_aload_n (pc' := 2472) h dL_law_2471 rfl rfl ?_
  refine r_callVL (pc' := 2475) (st := []) (M := mX5_runningShare) (As := []) h dL_law_2472 rfl lL_343 vX5_runningShare rfl hQ1.l0 hQ1.o rfl rfl (by decide) ⟨by decide, by decide, by show a + 1 + 0 ≤ 603072; omega, by show b + 6 + 0 ≤ 7157866; omega⟩ (kX5_runningShare hQ1 hR.w hn5 (fun S2 hQ2 hR3 => ?_))
  rw [← hw]
  rw [← hk0] at hQ2
  show AW X G 9 126 2475 _ _ S2 _ _
  have hg2 := (hR3 125 (by decide)).trans hg
  refine r_fstore (lo' := LO G q0 i ++ [(6, .int k0), (7, .float w)]) (pc' := 2477) h dL_law_2475 rfl (by decide) rfl ?_
  have fin : AW X G 9 126 2526 (LO G q0 i ++ [(6, .int k0), (7, .float w)]) [] S2 (a + 1 + 0) (b + 6 + 0) := by
    refine r_goto (tgt := 3033) h dL_law_2526 (by decide) (r_sub [0, 1, 2, 3, 4, 5] rfl (r_widen (by show a + 1 + 0 ≤ a + 8; omega) (by show b + 6 + 0 ≤ b + 64; omega) (kk S2 _ _ _ _ (hS1.m hQ2 hR3) (hR.thr _) (by omega))))
  refine r_aload_n (pc' := 2478) h dL_law_2477 rfl rfl ?_
  refine r_callVL (pc' := 2481) (st := []) (M := mX5_thrown) (As := []) h dL_law_2478 rfl lL_170 vX5_thrown rfl hQ2.l0 hQ2.o rfl rfl (by decide) ⟨by decide, by decide, by show a + 1 + 0 + 0 ≤ 603072; omega, by show b + 6 + 0 + 0 ≤ 7157866; omega⟩ (kX5_thrown hQ2 ?_)
  show AW X G 9 126 2481 _ [.int k0] S2 _ _
  refine r_iload (pc' := 2483) h dL_law_2481 rfl rfl ?_
  refine r_icmp_eq (tgt := 2488) (pc' := 2486) h dL_law_2483 (by decide) rfl (fun _ => ?_) (fun c => absurd rfl c)
  refine r_iload (pc' := 2490) h dL_law_2488 rfl rfl ?_
  refine r_if_ne (tgt := 2526) (pc' := 2493) h dL_law_2490 (by decide) rfl (fun _ => fin) (fun c => ?_)
  have eg : g (Int32.toNatClampNeg 0) = FP.f2d v := e1 c
  obtain ⟨ev, evn, evc⟩ := ew c
  have i0 : vp_in (nI 0) 1 := nI_in (by decide) (by decide)
  refine r_aload (pc' := 2495) h dL_law_2493 rfl rfl ?_
  refine r_iconst (pc' := 2496) (v := 0) h dL_law_2495 rfl (by decide) ?_
  refine r_dald (pc' := 2497) h dL_law_2496 rfl (by decide) hg2 (show vp_in (nI 0) 1 from i0) ?_
  refine r_fload (pc' := 2499) h dL_law_2497 rfl rfl ?_
  refine r_f2d (pc' := 2500) h dL_law_2499 rfl (by rw [ev]; exact evn) ?_
  refine r_dcmp (pc' := 2501) h dL_law_2500 rfl ?_
  rw [show Op.cmpValue (FP.dcmp (g (Int32.toNatClampNeg 0)) (FP.f2d w)) .l = 0 from by rw [eg, ev, evc]; rfl]
  exact r_if_eq (tgt := 2526) (pc' := 2504) h dL_law_2501 (by decide) rfl (fun _ => fin) (fun z => absurd rfl z)
