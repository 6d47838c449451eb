/-! THE LAW'S LOOP over turbines: one of them. -/
abbrev LK (G : GX) (q0 : Nat) (tt n d0 sp tot run srv k : Int32) : List (Nat × Value) := [(0, .ref q0), (1, .ref (ad G 0)), (2, .int tt), (3, .int n), (4, .int tot), (5, .int run), (6, .int srv), (7, .int 0), (8, .int (-30000)), (9, .int 0), (10, .int (-1)), (11, .int d0), (12, .int sp), (13, .int k)]
theorem wtD6 (D E : DM) (t : Int32) (h : E.1 = D.1) : (zW6 D E t).1 = D.1 := by
  unfold zW6
  split
  · exact (sameO_zNm E _ _).1.trans h
  · split
    · exact h
    · split
      · exact (sameO_zNm E _ _).1.trans h
      · exact h
theorem wtD (D : DM) (t : Int32) : (zW6 D (zW5 D t) t).1 = D.1 := wtD6 D (zW5 D t) t (wt_5D D t).1
theorem ite_mM {c : Prop} [Decidable c] {a b : MM × Int32} {x : Nat → Int32} (h1 : mM a.1 = x) (h2 : mM b.1 = x) : mM (if c then a else b).1 = x := by
  split
  · exact h1
  · exact h2
theorem mM_qWtt (Q : MM) (t : Int32) : mM (qWtt Q t).1 = mM Q := by
  obtain ⟨P, hP⟩ : ∃ P, P = qWt9 (qWt8 (qWt7 (qWt6 Q t) t) t) t := ⟨_, rfl⟩
  have e : mM P = mM Q := by rw [hP, mM_qWt9, mM_qWt8, mM_qWt7, mM_qWt6]
  unfold qWtt
  rw [← hP]
  exact ite_mM (a := (P, mI P 9)) (b := qR Q 1 0) e rfl
theorem one_st : ∀ s, s < 3 → (if decide (s = 0) then (1 : Int32) else 0) + (if decide (s = 1) then 1 else 0) + (if decide (s = 2) then 1 else 0) = 1 := by decide
theorem cSt_s (F : FM) (s : Int32) (j : Nat) : cSt F s j + (if inSt F (nI j) s then 1 else 0) = cSt F s (j + 1) := by
  show _ = (if inSt F (nI j) s then cSt F s j + 1 else cSt F s j)
  split
  · rfl
  · exact Int32.add_zero _
theorem lft_s {s h : Nat} {v : Int32} (hs : s = 2 → 1 ≤ h) (hh : h ≤ 12) (hv : (s = 2 ∧ v = nI h) ∨ (s ≠ 2 ∧ v = -30000)) : (if v ≤ 0 then (0 : Int32) else 1) = b2i (decide (s = 2)) := by
  rcases hv with ⟨h1, h2⟩ | ⟨h1, h2⟩
  · rw [h2, if_neg (nI_nle (hs h1) (by omega)), decide_eq_true h1]
    rfl
  · rw [h2, if_pos (by decide), decide_eq_false h1]
    rfl
theorem lim_ne {l : Nat} {v : Int32} (hl : l ≤ 91) (h : (l = 0 ∧ v = -30000) ∨ (0 < l ∧ v = nI (l - 1))) : v = -30000 ↔ l = 0 := by
  rcases h with ⟨h1, h2⟩ | ⟨h1, h2⟩
  · exact ⟨fun _ => h1, fun _ => h2⟩
  · refine ⟨fun z => ?_, fun z => absurd z (by omega)⟩
    rw [h2] at z
    exact absurd z (fun z2 => nI_pos (n := l - 1) (by omega) (by rw [z2]; decide))
theorem law_k {X : CX} {G : GX} {B n j w sp q0 a b : Nat} {S : Nat → va_E} {D : DM} {Q : MM} {tt : Int32} (h : OK X G 119 code RL 19 rmL) (hD : isD G 119 S D) (hR : Rel B 0 D Q) (hj : j < qN (mM Q)) (hw : w < 4) (e1 : fI (dF D 0) 1 = qSgn (nI w)) (e2 : fI (dF D 0) 2 = nI sp) (ha : a + 120 ≤ 811098) (hb : b + 900 ≤ 6651793)
    (kk : ∀ S1 D1 Q1, isD G 119 S1 D1 → Rel B 0 D1 Q1 → dF D1 0 = dF D 0 → mM Q1 = mM Q → AW X G 19 119 77 (LK G q0 tt (nI n) (qSgn (nI w)) (nI sp) (sumI (dF D 0) (qSgn (nI w)) (nI sp) (j + 1)) (cSt (dF D 0) 1 (j + 1)) (cSt (dF D 0) 3 (j + 1)) (nI (j + 1))) [] S1 (a + 120) (b + 900)) : AW X G 19 119 83 (LK G q0 tt (nI n) (qSgn (nI w)) (nI sp) (sumI (dF D 0) (qSgn (nI w)) (nI sp) j) (cSt (dF D 0) 1 j) (cSt (dF D 0) 3 j) (nI j)) [] S a b := by
  have hM := hR.2.1.1
  have hF := hR.2.1.2
  have hv := hR.v
  obtain ⟨r, c, pp, s, hh, l, t⟩ := tf_of hM hF hj
  obtain ⟨lo1, hlz, hla, hlr⟩ := lm_res t
  obtain ⟨lo2, hsz, hsa, hsr⟩ := sh_res t
  obtain ⟨o1, o2, o3, -⟩ := out_oN hM hF hj
  have htx := wt_tx t o2 o1
  have t0 := t
  obtain ⟨t1, t2, t3, t4, t5, t6, t7, t8, t9, ⟨x0, x1, x2⟩, v0, v1, v2, v3, v4, v5, v6⟩ := t
  have u0 : inSt (dF D 0) (nI j) 1 = decide (s = 0) := v6 0 (by decide)
  have u1 : inSt (dF D 0) (nI j) 2 = decide (s = 1) := v6 1 (by decide)
  have u2 : inSt (dF D 0) (nI j) 3 = decide (s = 2) := v6 2 (by decide)
  have hls := los_ex hM hF.1 hj hw
  rw [e1, e2] at o2
  have hlim : (l = 0 ∧ rdI lo1 = -30000) ∨ (0 < l ∧ rdI lo1 = nI (l - 1)) := hlr.imp (fun q => ⟨q.1, q.2.1⟩) (fun q => ⟨q.1, q.2.2.1⟩)
  generalize hlm : rdI lo1 = lim at hlim
  generalize hlf : rdI lo2 = lft at hsr
  have hat : (if isCell' (nI r) (nI c) then (if tIn (dF D 0) (nI r) (nI c) < 0 then (.inr eN : RO) else .inl (some (.int (tIn (dF D 0) (nI r) (nI c))))) else .inr eI) = .inl (some (.int (nI j))) := by
    rw [if_pos (cell_ok t2 t3), tIn_eq hF.1.2.2 t2 t3, ← x0, ← x1, qIn_at hM hj, if_neg (nI_pos (by omega))]
  have t492 : ∀ S1 D1 Q1, isD G 119 S1 D1 → Rel B 0 D1 Q1 → dF D1 0 = dF D 0 → mM Q1 = mM Q → AW X G 19 119 492 (LK G q0 tt (nI n) (qSgn (nI w)) (nI sp) (sumI (dF D 0) (qSgn (nI w)) (nI sp) j) (cSt (dF D 0) 1 j) (cSt (dF D 0) 3 j) (nI j) ++ [(14, .int (outp (dF D 0) (nI j) (qSgn (nI w)) (nI sp))), (15, .int (los (dF D 0) (nI j) (qSgn (nI w)))), (16, .int lim), (17, .int lft), (18, .int (pwr (dF D 0) (nI j) (nI sp) (los (dF D 0) (nI j) (qSgn (nI w)))))]) [] S1 (a + 110) (b + 850) := by
    intro S1 D1 Q1 hD1 hR1 f1 f2
    refine r_iload (pc' := 494) h dL_law_492 rfl rfl ?_
    refine r_iload (pc' := 496) h dL_law_494 rfl rfl ?_
    refine r_iadd (pc' := 497) h dL_law_496 rfl ?_
    refine r_istore (pc' := 499) h dL_law_497 rfl (by decide) rfl ?_
    refine r_iload (pc' := 501) h dL_law_499 rfl rfl ?_
    refine r_aload_n (pc' := 502) h dL_law_501 rfl rfl ?_
    refine r_iload (pc' := 504) h dL_law_502 rfl rfl ?_
    refine r_callVL (st := [.int (cSt (dF D 0) 1 j)]) (As := [.int (nI j)]) (M := mX4_isRunning) (pc' := 507) h dL_law_504 rfl lL_143 vX4_isRunning rfl hD1.l0 hD1.o0 rfl rfl (Nat.le_of_ble_eq_true rfl) ⟨by decide, by decide, by show a + 110 + 1 ≤ 811098; omega, by show b + 850 + 6 ≤ 6651793; omega⟩ (kX4_isRunning hD1 ?_)
    rw [f1, if_pos v5]
    refine K_int ?_
    refine r_widen (a' := a + 111) (b' := b + 856) (by show a + 110 + 1 ≤ a + 111; omega) (by show b + 850 + 6 ≤ b + 856; omega) ?_
    refine r_tern (pc' := 515) (A := 1) (B := 0) h dL_law_507 dL_law_510 dL_law_511 dL_law_514 (by decide) (by decide) ⟨rfl, rfl, rfl, rfl⟩ ?_
    refine r_iadd (pc' := 516) h dL_law_515 rfl ?_
    rw [cSt_s (dF D 0) 1 j]
    refine r_istore (pc' := 518) h dL_law_516 rfl (by decide) rfl ?_
    refine r_iload (pc' := 520) h dL_law_518 rfl rfl ?_
    refine r_iload (pc' := 522) h dL_law_520 rfl rfl ?_
    refine r_ternLe (pc' := 530) (A := 1) (B := 0) h dL_law_522 dL_law_525 dL_law_526 dL_law_529 (by decide) (by decide) ⟨rfl, rfl, rfl, rfl⟩ ?_
    rw [lft_s t9 t6 hsr, ← u2, show b2i (inSt (dF D 0) (nI j) 3) = (if inSt (dF D 0) (nI j) 3 then 1 else 0) from rfl]
    refine r_iadd (pc' := 531) h dL_law_530 rfl ?_
    rw [cSt_s (dF D 0) 3 j]
    refine r_istore (pc' := 533) h dL_law_531 rfl (by decide) rfl ?_
    refine r_iinc (pc' := 536) (v := 1) h dL_law_533 rfl (by decide) (by decide) rfl rfl ?_
    refine r_goto (tgt := 77) h dL_law_536 (by decide) ?_
    rw [nI_1]
    refine r_sub (lo' := LK G q0 tt (nI n) (qSgn (nI w)) (nI sp) (sumI (dF D 0) (qSgn (nI w)) (nI sp) (j + 1)) (cSt (dF D 0) 1 (j + 1)) (cSt (dF D 0) 3 (j + 1)) (nI (j + 1))) [0, 1, 2, 3, 4, 5, 6, 7, 8, 9, 10, 11, 12, 13] rfl ?_
    exact r_widen (by show a + 111 ≤ a + 120; omega) (by show b + 856 ≤ b + 900; omega) (kk S1 D1 Q1 hD1 hR1 f1 f2)
  have t322 : AW X G 19 119 322 (LK G q0 tt (nI n) (qSgn (nI w)) (nI sp) (sumI (dF D 0) (qSgn (nI w)) (nI sp) j) (cSt (dF D 0) 1 j) (cSt (dF D 0) 3 j) (nI j) ++ [(14, .int (outp (dF D 0) (nI j) (qSgn (nI w)) (nI sp))), (15, .int (los (dF D 0) (nI j) (qSgn (nI w)))), (16, .int lim), (17, .int lft), (18, .int (pwr (dF D 0) (nI j) (nI sp) (los (dF D 0) (nI j) (qSgn (nI w)))))]) [] S (a + 69) (b + 500) := by
    refine r_aload_n (pc' := 323) h dL_law_322 rfl rfl ?_
    refine r_aload_n (pc' := 324) h dL_law_323 rfl rfl ?_
    refine r_iload (pc' := 326) h dL_law_324 rfl rfl ?_
    obtain ⟨w1, w2⟩ := wt_rel hR (nI j)
    refine r_callVL (st := [.ref (ad G 0)]) (As := [.int (nI j)]) (M := mX4_writeTurbine) (pc' := 329) h dL_law_326 rfl lL_214 vX4_writeTurbine rfl hD.l0 hD.o0 rfl rfl (Nat.le_of_ble_eq_true rfl) ⟨by decide, by decide, by show a + 69 + 1 ≤ 811098; omega, by show b + 500 + 6 ≤ 6651793; omega⟩ (kX4_writeTurbine hD hv (fun S1 hD1 hR1 => ?_))
    have ez : zWt D (nI j) = (.inl (some (.int (dI (zW6 D (zW5 D (nI j)) (nI j)) 11))), zW6 D (zW5 D (nI j)) (nI j)) := if_pos v5
    rw [ez] at hD1 w1 ⊢
    have hx := htx
    have hlen : dI (zW6 D (zW5 D (nI j)) (nI j)) 11 = nI (tAll j r c pp (oN (mM Q) j) l s hh).length := hx.1
    have f1 : dF (zW6 D (zW5 D (nI j)) (nI j)) 0 = dF D 0 := by
      have q := (wtD D (nI j))
      exact congrFun q 0
    have f2 : mM (qWtt Q (nI j)).1 = mM Q := mM_qWtt Q (nI j)
    show KL X G 19 119 329 _ _ _ _ (.inl (some (.int (dI (zW6 D (zW5 D (nI j)) (nI j)) 11)))) S1
    rw [hlen]
    refine K_int ?_
    refine r_widen (a' := a + 70) (b' := b + 506) (by show a + 69 + 1 ≤ a + 70; omega) (by show b + 500 + 6 ≤ b + 506; omega) ?_
    generalize zW6 D (zW5 D (nI j)) (nI j) = D1 at hD1 w1 hx hlen f1
    rw [o2] at t492 ⊢
    refine law_text (D := D1) (M := mM Q) (oo := oN (mM Q) j) (lim := lim) (lft := lft) h hD1 w1.v.2.2.2.2.2.2 (by rw [f1]; exact t0) o1 rfl rfl rfl rfl rfl hlim hsr hx (by omega) (by omega) ?_
    exact r_widen (by show a + 70 + 40 ≤ a + 110; omega) (by show b + 506 + 300 ≤ b + 850; omega) (t492 S1 D1 _ hD1 w1 f1 f2)
  have t266 : AW X G 19 119 266 (LK G q0 tt (nI n) (qSgn (nI w)) (nI sp) (sumI (dF D 0) (qSgn (nI w)) (nI sp) j) (cSt (dF D 0) 1 j) (cSt (dF D 0) 3 j) (nI j) ++ [(14, .int (outp (dF D 0) (nI j) (qSgn (nI w)) (nI sp))), (15, .int (los (dF D 0) (nI j) (qSgn (nI w)))), (16, .int lim), (17, .int lft), (18, .int (pwr (dF D 0) (nI j) (nI sp) (los (dF D 0) (nI j) (qSgn (nI w)))))]) [] S (a + 61) (b + 452) := by
    refine r_aload_n (pc' := 267) h dL_law_266 rfl rfl ?_
    refine r_aload_n (pc' := 268) h dL_law_267 rfl rfl ?_
    refine r_iload (pc' := 270) h dL_law_268 rfl rfl ?_
    refine r_callVL (st := [.ref (ad G 0)]) (As := [.int (nI j)]) (M := mX4_rowOf) (pc' := 273) h dL_law_270 rfl lL_135 vX4_rowOf rfl hD.l0 hD.o0 rfl rfl (Nat.le_of_ble_eq_true rfl) ⟨by decide, by decide, by show a + 61 + 1 ≤ 811098; omega, by show b + 452 + 6 ≤ 6651793; omega⟩ (kX4_rowOf hD ?_)
    rw [if_pos v5, v0]
    refine K_int ?_
    refine r_widen (a' := a + 62) (b' := b + 458) (by show a + 61 + 1 ≤ a + 62; omega) (by show b + 452 + 6 ≤ b + 458; omega) ?_
    refine r_aload_n (pc' := 274) h dL_law_273 rfl rfl ?_
    refine r_iload (pc' := 276) h dL_law_274 rfl rfl ?_
    refine r_callVL (st := [.int (nI r), .ref (ad G 0)]) (As := [.int (nI j)]) (M := mX4_columnOf) (pc' := 279) h dL_law_276 rfl lL_138 vX4_columnOf rfl hD.l0 hD.o0 rfl rfl (Nat.le_of_ble_eq_true rfl) ⟨by decide, by decide, by show a + 62 + 1 ≤ 811098; omega, by show b + 458 + 6 ≤ 6651793; omega⟩ (kX4_columnOf hD ?_)
    rw [if_pos v5, v1]
    refine K_int ?_
    refine r_widen (a' := a + 63) (b' := b + 464) (by show a + 62 + 1 ≤ a + 63; omega) (by show b + 458 + 6 ≤ b + 464; omega) ?_
    refine r_callVL (st := []) (As := [.int (nI r), .int (nI c)]) (M := mX4_turbineAt) (pc' := 282) h dL_law_279 rfl lL_46 vX4_turbineAt rfl hD.l0 hD.o0 rfl rfl (Nat.le_of_ble_eq_true rfl) ⟨by decide, by decide, by show a + 63 + 2 ≤ 811098; omega, by show b + 464 + 12 ≤ 6651793; omega⟩ (kX4_turbineAt hD ?_)
    rw [hat]
    refine K_int ?_
    refine r_widen (a' := a + 65) (b' := b + 476) (by show a + 63 + 2 ≤ a + 65; omega) (by show b + 464 + 12 ≤ b + 476; omega) ?_
    refine r_iload (pc' := 284) h dL_law_282 rfl rfl ?_
    refine r_icmp_ne (tgt := 320) (pc' := 287) h dL_law_284 (by decide) rfl (fun c => absurd c (fun z => z rfl)) (fun _ => ?_)
    refine r_aload_n (pc' := 288) h dL_law_287 rfl rfl ?_
    refine r_iload (pc' := 290) h dL_law_288 rfl rfl ?_
    refine r_callVL (st := []) (As := [.int (nI j)]) (M := mX4_wakeLoss) (pc' := 293) h dL_law_290 rfl lL_205 vX4_wakeLoss rfl hD.l0 hD.o0 rfl rfl (Nat.le_of_ble_eq_true rfl) ⟨by decide, by decide, by show a + 65 + 1 ≤ 811098; omega, by show b + 476 + 6 ≤ 6651793; omega⟩ (kX4_wakeLoss hD ?_)
    rw [if_pos v5, e1]
    refine K_int ?_
    refine r_widen (a' := a + 66) (b' := b + 482) (by show a + 65 + 1 ≤ a + 66; omega) (by show b + 476 + 6 ≤ b + 482; omega) ?_
    refine r_iload (pc' := 295) h dL_law_293 rfl rfl ?_
    refine r_icmp_ne (tgt := 320) (pc' := 298) h dL_law_295 (by decide) rfl (fun c => absurd c (fun z => z rfl)) (fun _ => ?_)
    refine r_aload_n (pc' := 299) h dL_law_298 rfl rfl ?_
    refine r_iload (pc' := 301) h dL_law_299 rfl rfl ?_
    refine r_callVL (st := []) (As := [.int (nI j)]) (M := mX4_availablePower) (pc' := 304) h dL_law_301 rfl lL_208 vX4_availablePower rfl hD.l0 hD.o0 rfl rfl (Nat.le_of_ble_eq_true rfl) ⟨by decide, by decide, by show a + 66 + 1 ≤ 811098; omega, by show b + 482 + 6 ≤ 6651793; omega⟩ (kX4_availablePower hD ?_)
    rw [if_pos v5, e1, e2]
    refine K_int ?_
    refine r_widen (a' := a + 67) (b' := b + 488) (by show a + 66 + 1 ≤ a + 67; omega) (by show b + 482 + 6 ≤ b + 488; omega) ?_
    refine r_iload (pc' := 306) h dL_law_304 rfl rfl ?_
    refine r_icmp_ne (tgt := 320) (pc' := 309) h dL_law_306 (by decide) rfl (fun c => absurd c (fun z => z rfl)) (fun _ => ?_)
    refine r_aload_n (pc' := 310) h dL_law_309 rfl rfl ?_
    refine r_iload (pc' := 312) h dL_law_310 rfl rfl ?_
    refine r_callVL (st := []) (As := [.int (nI j)]) (M := mX4_outputOf) (pc' := 315) h dL_law_312 rfl lL_211 vX4_outputOf rfl hD.l0 hD.o0 rfl rfl (Nat.le_of_ble_eq_true rfl) ⟨by decide, by decide, by show a + 67 + 1 ≤ 811098; omega, by show b + 488 + 6 ≤ 6651793; omega⟩ (kX4_outputOf hD ?_)
    rw [if_pos v5, e1, e2]
    refine K_int ?_
    refine r_widen (a' := a + 68) (b' := b + 494) (by show a + 67 + 1 ≤ a + 68; omega) (by show b + 488 + 6 ≤ b + 494; omega) ?_
    refine r_iload (pc' := 317) h dL_law_315 rfl rfl ?_
    refine r_icmp_eq (tgt := 322) (pc' := 320) h dL_law_317 (by decide) rfl (fun _ => ?_) (fun c => absurd rfl c)
    exact r_widen (by show a + 68 ≤ a + 69; omega) (by show b + 494 ≤ b + 500; omega) t322
  have t180 : AW X G 19 119 180 (LK G q0 tt (nI n) (qSgn (nI w)) (nI sp) (sumI (dF D 0) (qSgn (nI w)) (nI sp) j) (cSt (dF D 0) 1 j) (cSt (dF D 0) 3 j) (nI j) ++ [(14, .int (outp (dF D 0) (nI j) (qSgn (nI w)) (nI sp))), (15, .int (los (dF D 0) (nI j) (qSgn (nI w)))), (16, .int lim), (17, .int lft)]) [.int (pwr (dF D 0) (nI j) (nI sp) (los (dF D 0) (nI j) (qSgn (nI w))))] S (a + 54) (b + 410) := by
    refine r_istore (pc' := 182) h dL_law_180 rfl (by decide) rfl ?_
    refine r_aload_n (pc' := 183) h dL_law_182 rfl rfl ?_
    refine r_iload (pc' := 185) h dL_law_183 rfl rfl ?_
    refine r_callVL (st := []) (As := [.int (nI j)]) (M := mX4_isRunning) (pc' := 188) h dL_law_185 rfl lL_143 vX4_isRunning rfl hD.l0 hD.o0 rfl rfl (Nat.le_of_ble_eq_true rfl) ⟨by decide, by decide, by show a + 54 + 1 ≤ 811098; omega, by show b + 410 + 6 ≤ 6651793; omega⟩ (kX4_isRunning hD ?_)
    rw [if_pos v5, u0]
    refine K_int ?_
    refine r_widen (a' := a + 55) (b' := b + 416) (by show a + 54 + 1 ≤ a + 55; omega) (by show b + 410 + 6 ≤ b + 416; omega) ?_
    refine r_tern (pc' := 196) (A := 1) (B := 0) h dL_law_188 dL_law_191 dL_law_192 dL_law_195 (by decide) (by decide) ⟨rfl, rfl, rfl, rfl⟩ ?_
    refine r_aload_n (pc' := 197) h dL_law_196 rfl rfl ?_
    refine r_iload (pc' := 199) h dL_law_197 rfl rfl ?_
    refine r_callVL (st := [.int _]) (As := [.int (nI j)]) (M := mX4_isFailed) (pc' := 202) h dL_law_199 rfl lL_199 vX4_isFailed rfl hD.l0 hD.o0 rfl rfl (Nat.le_of_ble_eq_true rfl) ⟨by decide, by decide, by show a + 55 + 1 ≤ 811098; omega, by show b + 416 + 6 ≤ 6651793; omega⟩ (kX4_isFailed hD ?_)
    rw [if_pos v5, u1]
    refine K_int ?_
    refine r_widen (a' := a + 56) (b' := b + 422) (by show a + 55 + 1 ≤ a + 56; omega) (by show b + 416 + 6 ≤ b + 422; omega) ?_
    refine r_tern (pc' := 210) (A := 1) (B := 0) h dL_law_202 dL_law_205 dL_law_206 dL_law_209 (by decide) (by decide) ⟨rfl, rfl, rfl, rfl⟩ ?_
    refine r_iadd (pc' := 211) h dL_law_210 rfl ?_
    refine r_aload_n (pc' := 212) h dL_law_211 rfl rfl ?_
    refine r_iload (pc' := 214) h dL_law_212 rfl rfl ?_
    refine r_callVL (st := [.int _]) (As := [.int (nI j)]) (M := mX4_isInService) (pc' := 217) h dL_law_214 rfl lL_202 vX4_isInService rfl hD.l0 hD.o0 rfl rfl (Nat.le_of_ble_eq_true rfl) ⟨by decide, by decide, by show a + 56 + 1 ≤ 811098; omega, by show b + 422 + 6 ≤ 6651793; omega⟩ (kX4_isInService hD ?_)
    rw [if_pos v5, u2]
    refine K_int ?_
    refine r_widen (a' := a + 57) (b' := b + 428) (by show a + 56 + 1 ≤ a + 57; omega) (by show b + 422 + 6 ≤ b + 428; omega) ?_
    refine r_tern (pc' := 225) (A := 1) (B := 0) h dL_law_217 dL_law_220 dL_law_221 dL_law_224 (by decide) (by decide) ⟨rfl, rfl, rfl, rfl⟩ ?_
    refine r_iadd (pc' := 226) h dL_law_225 rfl ?_
    refine r_iconst (pc' := 227) (v := 1) h dL_law_226 rfl (by decide) ?_
    rw [one_st s t5]
    refine r_icmp_ne (tgt := 320) (pc' := 230) h dL_law_227 (by decide) rfl (fun c => absurd c (fun z => z rfl)) (fun _ => ?_)
    refine r_aload_n (pc' := 231) h dL_law_230 rfl rfl ?_
    refine r_iload (pc' := 233) h dL_law_231 rfl rfl ?_
    refine r_callVL (st := []) (As := [.int (nI j)]) (M := mX4_isInService) (pc' := 236) h dL_law_233 rfl lL_202 vX4_isInService rfl hD.l0 hD.o0 rfl rfl (Nat.le_of_ble_eq_true rfl) ⟨by decide, by decide, by show a + 57 + 1 ≤ 811098; omega, by show b + 428 + 6 ≤ 6651793; omega⟩ (kX4_isInService hD ?_)
    rw [if_pos v5, u2]
    refine K_int ?_
    refine r_widen (a' := a + 58) (b' := b + 434) (by show a + 57 + 1 ≤ a + 58; omega) (by show b + 428 + 6 ≤ b + 434; omega) ?_
    refine r_iload (pc' := 238) h dL_law_236 rfl rfl ?_
    refine r_ternLe (pc' := 246) (A := 1) (B := 0) h dL_law_238 dL_law_241 dL_law_242 dL_law_245 (by decide) (by decide) ⟨rfl, rfl, rfl, rfl⟩ ?_
    rw [lft_s t9 t6 hsr]
    refine r_icmp_ne (tgt := 320) (pc' := 249) h dL_law_246 (by decide) rfl (fun c => absurd c (fun z => z rfl)) (fun _ => ?_)
    refine r_iload (pc' := 251) h dL_law_249 rfl rfl ?_
    refine r_sipush (pc' := 254) (v := -30000) h dL_law_251 rfl (by decide) ?_
    refine r_icmp_eq (tgt := 266) (pc' := 257) h dL_law_254 (by decide) rfl (fun c1 => ?_) (fun c1 => ?_)
    · exact r_widen (by show a + 58 ≤ a + 61; omega) (by show b + 434 ≤ b + 452; omega) t266
    · have hl0 : 0 < l := by
        rcases Nat.eq_zero_or_pos l with z | z
        · exact absurd ((lim_ne t7 hlim).mpr z) c1
        · exact z
      have hs0 := t8 hl0
      refine r_aload_n (pc' := 258) h dL_law_257 rfl rfl ?_
      refine r_iload (pc' := 260) h dL_law_258 rfl rfl ?_
      refine r_callVL (st := []) (As := [.int (nI j)]) (M := mX4_isRunning) (pc' := 263) h dL_law_260 rfl lL_143 vX4_isRunning rfl hD.l0 hD.o0 rfl rfl (Nat.le_of_ble_eq_true rfl) ⟨by decide, by decide, by show a + 58 + 1 ≤ 811098; omega, by show b + 434 + 6 ≤ 6651793; omega⟩ (kX4_isRunning hD ?_)
      rw [if_pos v5, u0]
      refine K_int ?_
      refine r_widen (a' := a + 59) (b' := b + 440) (by show a + 58 + 1 ≤ a + 59; omega) (by show b + 434 + 6 ≤ b + 440; omega) ?_
      rw [decide_eq_true hs0]
      refine r_if_eq (tgt := 320) (pc' := 266) h dL_law_263 (by decide) rfl (fun c => absurd c (by decide)) (fun _ => ?_)
      exact r_widen (by show a + 59 ≤ a + 61; omega) (by show b + 440 ≤ b + 452; omega) t266
  refine r_aload_n (pc' := 84) h dL_law_83 rfl rfl ?_
  refine r_iload (pc' := 86) h dL_law_84 rfl rfl ?_
  refine r_iload (pc' := 88) h dL_law_86 rfl rfl ?_
  refine r_iload (pc' := 90) h dL_law_88 rfl rfl ?_
  refine r_callSK (st := []) (As := [.ref (ad G 0), .int (nI j), .int (qSgn (nI w)), .int (nI sp)]) (M := mL_output) (pc' := 93) h dL_law_90 rfl lL_193 vL_output rfl rfl (Nat.le_of_ble_eq_true rfl) ⟨by decide, by decide, by show a + 0 + 14 ≤ 811098; omega, by show b + 0 + 84 ≤ 6651793; omega⟩ (kL_output hD hM hF (w := w) (sp := sp) hj hw (K_int ?_))
  refine r_widen (a' := a + 14) (b' := b + 84) (by show a + 0 + 14 ≤ a + 14; omega) (by show b + 0 + 84 ≤ b + 84; omega) ?_
  refine r_istore (pc' := 95) h dL_law_93 rfl (by decide) rfl ?_
  refine r_aload_n (pc' := 96) h dL_law_95 rfl rfl ?_
  refine r_iload (pc' := 98) h dL_law_96 rfl rfl ?_
  refine r_iconst (pc' := 99) (v := 1) h dL_law_98 rfl (by decide) ?_
  refine r_iload (pc' := 101) h dL_law_99 rfl rfl ?_
  refine r_callSK (st := []) (As := [.ref (ad G 0), .int (nI j), .int (nI 1), .int (qSgn (nI w))]) (M := mL_isUpwind) (pc' := 104) h dL_law_101 rfl lL_147 vL_isUpwind rfl rfl (Nat.le_of_ble_eq_true rfl) ⟨by decide, by decide, by show a + 14 + 5 ≤ 811098; omega, by show b + 84 + 30 ≤ 6651793; omega⟩ (kL_isUpwind hD hM hF (far := 1) hj hw (K_int ?_))
  refine r_widen (a' := a + 19) (b' := b + 114) (by show a + 14 + 5 ≤ a + 19; omega) (by show b + 84 + 30 ≤ b + 114; omega) ?_
  refine r_tern (pc' := 112) (A := 3) (B := 0) h dL_law_104 dL_law_107 dL_law_108 dL_law_111 (by decide) (by decide) ⟨rfl, rfl, rfl, rfl⟩ ?_
  refine r_aload_n (pc' := 113) h dL_law_112 rfl rfl ?_
  refine r_iload (pc' := 115) h dL_law_113 rfl rfl ?_
  refine r_iconst (pc' := 116) (v := 2) h dL_law_115 rfl (by decide) ?_
  refine r_iload (pc' := 118) h dL_law_116 rfl rfl ?_
  refine r_callSK (st := [.int _]) (As := [.ref (ad G 0), .int (nI j), .int (nI 2), .int (qSgn (nI w))]) (M := mL_isUpwind) (pc' := 121) h dL_law_118 rfl lL_147 vL_isUpwind rfl rfl (Nat.le_of_ble_eq_true rfl) ⟨by decide, by decide, by show a + 19 + 5 ≤ 811098; omega, by show b + 114 + 30 ≤ 6651793; omega⟩ (kL_isUpwind hD hM hF (far := 2) hj hw (K_int ?_))
  refine r_widen (a' := a + 24) (b' := b + 144) (by show a + 19 + 5 ≤ a + 24; omega) (by show b + 114 + 30 ≤ b + 144; omega) ?_
  refine r_tern (pc' := 129) (A := 1) (B := 0) h dL_law_121 dL_law_124 dL_law_125 dL_law_128 (by decide) (by decide) ⟨rfl, rfl, rfl, rfl⟩ ?_
  refine r_iadd (pc' := 130) h dL_law_129 rfl ?_
  rw [show ((if runAt (mM Q) (tv (mM Q) j 0 + dnW (nI w) (nI 1)) (tv (mM Q) j 1 + rtW (nI w) (nI 1)) then (3 : Int32) else 0) + (if runAt (mM Q) (tv (mM Q) j 0 + dnW (nI w) (nI 2)) (tv (mM Q) j 1 + rtW (nI w) (nI 2)) then 1 else 0)) = los (dF D 0) (nI j) (qSgn (nI w)) from hls.symm]
  refine r_istore (pc' := 132) h dL_law_130 rfl (by decide) rfl ?_
  refine r_aload_n (pc' := 133) h dL_law_132 rfl rfl ?_
  refine r_iload (pc' := 135) h dL_law_133 rfl rfl ?_
  refine r_callSL (st := []) (As := [.ref (ad G 0), .int (nI j)]) (M := mL_limitOf) (pc' := 138) h dL_law_135 rfl lL_151 wL_limitOf rfl rfl (Nat.le_of_ble_eq_true rfl) ⟨by decide, by decide, by show a + 24 + 2 ≤ 811098; omega, by show b + 144 + 12 ≤ 6651793; omega⟩ (kL_limitOf hD hlz hla (K_int ?_))
  refine r_widen (a' := a + 26) (b' := b + 156) (by show a + 24 + 2 ≤ a + 26; omega) (by show b + 144 + 12 ≤ b + 156; omega) ?_
  rw [hlm]
  refine r_istore (pc' := 140) h dL_law_138 rfl (by decide) rfl ?_
  refine r_aload_n (pc' := 141) h dL_law_140 rfl rfl ?_
  refine r_iload (pc' := 143) h dL_law_141 rfl rfl ?_
  refine r_callSL (st := []) (As := [.ref (ad G 0), .int (nI j)]) (M := mL_serviceHoursLeft) (pc' := 146) h dL_law_143 rfl lL_197 wL_serviceHoursLeft rfl rfl (Nat.le_of_ble_eq_true rfl) ⟨by decide, by decide, by show a + 26 + 2 ≤ 811098; omega, by show b + 156 + 12 ≤ 6651793; omega⟩ (kL_serviceHoursLeft hD hsz hsa (K_int ?_))
  refine r_widen (a' := a + 28) (b' := b + 168) (by show a + 26 + 2 ≤ a + 28; omega) (by show b + 156 + 12 ≤ b + 168; omega) ?_
  rw [hlf]
  refine r_istore (pc' := 148) h dL_law_146 rfl (by decide) rfl ?_
  refine r_aload_n (pc' := 149) h dL_law_148 rfl rfl ?_
  refine r_iload (pc' := 151) h dL_law_149 rfl rfl ?_
  refine r_callVL (st := []) (As := [.int (nI j)]) (M := mX4_isRunning) (pc' := 154) h dL_law_151 rfl lL_143 vX4_isRunning rfl hD.l0 hD.o0 rfl rfl (Nat.le_of_ble_eq_true rfl) ⟨by decide, by decide, by show a + 28 + 1 ≤ 811098; omega, by show b + 168 + 6 ≤ 6651793; omega⟩ (kX4_isRunning hD ?_)
  rw [if_pos v5]
  refine K_int ?_
  refine r_widen (a' := a + 29) (b' := b + 174) (by show a + 28 + 1 ≤ a + 29; omega) (by show b + 168 + 6 ≤ b + 174; omega) ?_
  refine r_if_eqb (tgt := 179) (pc' := 157) h dL_law_154 (by decide) rfl (fun c0 => ?_) (fun c0 => ?_)
  · refine r_iconst (pc' := 180) (v := 0) h dL_law_179 rfl (by decide) ?_
    have hp := pw_res (dF D 0) (nI j) (nI sp) (los (dF D 0) (nI j) (qSgn (nI w)))
    rw [c0] at hp
    have hq := t180
    rw [← hp] at hq
    exact r_widen (by show a + 29 ≤ a + 54; omega) (by show b + 174 ≤ b + 410; omega) hq
  · refine r_aload_n (pc' := 158) h dL_law_157 rfl rfl ?_
    refine r_iload (pc' := 160) h dL_law_158 rfl rfl ?_
    refine r_callVL (st := []) (As := [.int (nI j)]) (M := mX4_ratedPower) (pc' := 163) h dL_law_160 rfl lL_153 vX4_ratedPower rfl hD.l0 hD.o0 rfl rfl (Nat.le_of_ble_eq_true rfl) ⟨by decide, by decide, by show a + 29 + 1 ≤ 811098; omega, by show b + 174 + 6 ≤ 6651793; omega⟩ (kX4_ratedPower hD ?_)
    rw [if_pos v5]
    refine K_int ?_
    refine r_widen (a' := a + 30) (b' := b + 180) (by show a + 29 + 1 ≤ a + 30; omega) (by show b + 174 + 6 ≤ b + 180; omega) ?_
    refine r_iconst (pc' := 164) (v := 0) h dL_law_163 rfl (by decide) ?_
    refine r_iload (pc' := 166) h dL_law_164 rfl rfl ?_
    refine r_callSK (st := [.int 0, .int (vAt 12 (fA (dF D 0) 2) (nI j))]) (As := [.int (nI sp)]) (M := mL_factor) (pc' := 169) h dL_law_166 rfl lL_156 vL_factor rfl rfl (Nat.le_of_ble_eq_true rfl) ⟨by decide, by decide, by show a + 30 + 0 ≤ 811098; omega, by show b + 180 + 0 ≤ 6651793; omega⟩ (kL_factor (K_int ?_))
    refine r_iload (pc' := 171) h dL_law_169 rfl rfl ?_
    refine r_isub (pc' := 172) h dL_law_171 rfl ?_
    refine r_max (pc' := 175) (own := RL) h dL_law_172 rfl lL_159 ⟨rfl, by show a + 30 ≤ 811098; omega, by show b + 180 ≤ 6651793; omega⟩ ?_
    refine r_imul (pc' := 176) h dL_law_175 rfl ?_
    refine r_goto (tgt := 180) h dL_law_176 (by decide) ?_
    have hp := pw_res (dF D 0) (nI j) (nI sp) (los (dF D 0) (nI j) (qSgn (nI w)))
    rw [c0, if_pos rfl] at hp
    have hq := t180
    rw [← hp] at hq
    exact r_widen (by show a + 30 ≤ a + 54; omega) (by show b + 180 ≤ b + 410; omega) hq
