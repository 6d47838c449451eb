/-! THE LAW'S CHECK of the text of a turbine. -/
def PT (X : CX) (G : GX) (N : Nat) (S : Nat → va_E) (D : DM) (cs : List Nat) (G1 : GX) (N1 : Nat) (S1 : Nat → va_E) : Prop := OK X G1 N1 code RL 19 rmL ∧ Ext G G1 N ∧ N + 2 ≤ N1 ∧ WT G1 N1 S1 N cs D ∧ ∀ k, k < N → EqE (S1 k) (S k)
theorem PT.keep {X : CX} {G G1 : GX} {N N1 : Nat} {S S1 S2 : Nat → va_E} {D : DM} {cs ds : List Nat} (h : PT X G N S D cs G1 N1 S1) (hW : WT G1 N1 S2 N ds D) (hr : ∀ k, k ≠ N → k ≠ N + 1 → S2 k = S1 k) : PT X G N S D ds G1 N1 S2 :=
  ⟨h.1, h.2.1, h.2.2.1, hW, fun k hk => (EqE.of (hr k (by omega) (by omega))).tr (h.2.2.2.2 k hk)⟩
/-- another builder beside it -/
theorem PT.grow {X : CX} {G G1 G2 : GX} {N N1 N2 : Nat} {S S1 S2 : Nat → va_E} {D : DM} {cs : List Nat} (h : PT X G N S D cs G1 N1 S1) (hN : N1 ≤ N2) (hK : OK X G2 N2 code RL 19 rmL) (hE : Ext G1 G2 N1) (hD : isD G2 N2 S2 D) (e1 : ∀ k, k < N1 → EqE (S2 k) (S1 k)) (e2 : ∀ k, 118 < k → k < N1 → S2 k = S1 k) : PT X G N S D cs G2 N2 S2 := by
  obtain ⟨h1, h2, h3, h4, h5⟩ := h
  have hp := h4.2.2
  exact ⟨hK, h2.tr' hE (by omega), by omega, ⟨hD, h4.2.1.ext hE hN (e2 _ hp (by omega)) (e2 _ (by omega) (by omega)), hp⟩, fun k hk => (e1 k (by omega)).tr (h5 k hk)⟩
theorem PT.keepO {X : CX} {G G1 : GX} {N N1 q : Nat} {S S1 S2 : Nat → va_E} {D : DM} {cs : List Nat} (h : PT X G N S D cs G1 N1 S1) (hq : N + 1 < q) (hr : ∀ k, k ≠ q → k ≠ q + 1 → S2 k = S1 k) : PT X G N S D cs G1 N1 S2 := by
  obtain ⟨h1, h2, h3, h4, h5⟩ := h
  have hp := h4.2.2
  exact ⟨h1, h2, h3, ⟨h4.1.world (fun k hk => hr k (by omega) (by omega)), h4.2.1.ext (Ext.rf _ _) (Nat.le_refl _) (hr _ (by omega) (by omega)) (hr _ (by omega) (by omega)), hp⟩, fun k hk => (EqE.of (hr k (by omega) (by omega))).tr (h5 k hk)⟩
theorem law_text {X : CX} {G : GX} {N j r c p s hh l oo a b : Nat} {lo : List (Nat × Value)} {S : Nat → va_E} {D : DM} {M : Nat → Int32} {lim lft : Int32} (h : OK X G N code RL 19 rmL) (hD : isD G N S D) (hr2 : rowC (dR D 2)) (t : TFj (dF D 0) M j r c p s hh l) (ho : oo ≤ 90)
    (g1 : lget 1 lo = some (.ref (ad G 0))) (g13 : lget 13 lo = some (.int (nI j))) (g14 : lget 14 lo = some (.int (nI oo))) (g16 : lget 16 lo = some (.int lim)) (g17 : lget 17 lo = some (.int lft)) (hlim : (l = 0 ∧ lim = -30000) ∨ (0 < l ∧ lim = nI (l - 1))) (hlft : (s = 2 ∧ lft = nI hh) ∨ (s ≠ 2 ∧ lft = -30000))
    (ht : tx (oTx D) (tAll j r c p oo l s hh)) (ha : a + 40 ≤ 811098) (hb : b + 300 ≤ 6651793) (kk : AW X G 19 N 492 lo [] S (a + 40) (b + 300)) : AW X G 19 N 329 lo [.int (nI (tAll j r c p oo l s hh).length), .ref (ad G 0)] S a b := by
  have hN := hD.1
  have hlen := tAll_len (j := j) (o := oo) (h := hh) (show r < 10 by have := t.2.1; omega) (show c < 10 by have := t.2.2.1; omega) (show p < 10 by have := t.2.2.2.1; omega) t.2.2.2.2.2.2.2.1
  obtain ⟨t1, t2, t3, t4, t5, t6, t7, t8, t9, t10, v0, v1, v2, v3, v4, v5, v6⟩ := t
  have hlA := tA_len (j := j) (o := oo) (show r < 10 by omega) (show c < 10 by omega) (show p < 10 by omega)
  have hlT := tail_len (h := hh) t8
  generalize hz : nI (tAll j r c p oo l s hh).length = sz
  have stE : ∀ G1 N1 S1 a1 b1, PT X G N S D (tAll j r c p oo l s hh) G1 N1 S1 → a1 ≤ a + 22 → b1 ≤ b + 184 → AW X G1 19 N1 481 lo [.ref (ad G1 N), .int sz, .ref (ad G1 0)] S1 a1 b1 := by
    intro G1 N1 S1 a1 b1 hP ha1 hb1
    obtain ⟨k1, k2, k3, k4, k5⟩ := hP
    refine st_t (pc' := 484) k1 k4 (by omega) dL_law_481 rfl (by show 1 + (1 + 0) ≤ 8; decide) (by omega) (by omega) (fun G2 S2 m1 m2 m3 m4 m5 m6 => ?_)
    rw [← m2.ad (show 0 < N1 by omega)]
    rw [← hz]
    refine r_callSK (pc' := 487) (st := []) (As := [.ref (ad G2 0), .int (nI (tAll j r c p oo l s hh).length), .ref (ad G2 N1)]) (M := mL_isLine) m1 dL_law_484 rfl lL_247 vL_isLine rfl rfl (Nat.zero_le _) ⟨by decide, by decide, by show a1 + 2 + 16 ≤ 811098; omega, by show b1 + 20 + 96 ≤ 6651793; omega⟩ (kL_isLine m3 hr2 m4 ht (by omega) (K_int ?_))
    refine r_if_ne (tgt := 492) (pc' := 490) m1 dL_law_487 (by decide) rfl (fun _ => ?_) (fun c => absurd c (by decide))
    refine r_dropE (k2.tr' m2 (by omega)) (by omega) (fun k hk => (m5 k (by omega)).tr (k5 k hk)) ?_
    exact r_widen (by show a1 + 2 + 16 ≤ a + 40; omega) (by show b1 + 20 + 96 ≤ b + 300; omega) kk
  have stD : ∀ G1 N1 S1 a1 b1, PT X G N S D (tA j r c p oo ++ tB l ++ tC s) G1 N1 S1 → a1 ≤ a + 14 → b1 ≤ b + 100 → AW X G1 19 N1 448 lo [.ref (ad G1 N), .int sz, .ref (ad G1 0)] S1 a1 b1 := by
    intro G1 N1 S1 a1 b1 hP ha1 hb1
    have hP0 := hP
    obtain ⟨k1, k2, k3, k4, k5⟩ := hP
    refine r_iload (pc' := 450) k1 dL_law_448 rfl g17 ?_
    rcases hlft with ⟨q1, q2⟩ | ⟨q1, q2⟩
    · have hE : tE s hh = [] ++ [115] ++ dec' hh := if_pos q1
      have e3 : tAll j r c p oo l s hh = tA j r c p oo ++ tB l ++ tC s ++ ([] ++ [115] ++ dec' hh) := by rw [← hE]; rfl
      have hll := hlen
      rw [e3, List.length_append] at hll
      have hl3 : ([] ++ [115] ++ dec' hh).length = 1 + (dec' hh).length := by simp only [List.length_append, List.length_nil, List.length_cons]
      have hd2 : (dec' hh).length ≤ 2 := dec_le
      rw [q2]
      refine r_if_le (tgt := 476) (pc' := 453) k1 dL_law_450 (by decide) rfl (fun c => absurd c (nI_nle (t9 q1) (by omega))) (fun _ => ?_)
      refine st_new (pc' := 460) k1 k4.1 dL_law_453 dL_law_456 dL_law_457 ⟨rfl, rfl, rfl⟩ (by show 1 + (1 + (1 + 0)) ≤ 7; decide) (by omega) (by omega) (fun G2 S2 m1 m2 m3 m4 m5 m6 => ?_)
      have hP2 := hP0.grow (show N1 ≤ N1 + 2 by omega) m1 m2 m3 m5 m6
      rw [← m2.ad (show 0 < N1 by omega), ← m2.ad (show N < N1 by omega)]
      refine r_ldcK (pc' := 462) (i := 8) (own := RL) m1 rfl dL_law_460 rfl ?_
      refine st_k (pc' := 465) (i := 8) m1 ⟨m3, m4, by omega⟩ (by decide) (by decide) dL_law_462 rfl (by show 1 + (1 + (1 + 0)) ≤ 8; decide) (by omega) (by omega) (fun S3 n1 n2 => ?_)
      refine r_iload (pc' := 467) m1 dL_law_465 rfl g17 ?_
      rw [q2]
      refine st_i (pc' := 470) (v := hh) m1 n1 (by omega) (by rw [← dec_len]; show ([] ++ [115]).length + _ ≤ 16; simp only [List.length_append, List.length_nil, List.length_cons]; omega) dL_law_467 rfl (by show 1 + (1 + (1 + 0)) ≤ 8; decide) (by omega) (by omega) (fun S4 n3 n4 => ?_)
      have hP4 := (hP2.keepO (by omega) n2).keepO (by omega) n4
      refine st_t (pc' := 473) m1 n3 (by show ([] ++ [115] ++ dec' hh).length < 16; omega) dL_law_470 rfl (by show 1 + (1 + (1 + 0)) ≤ 8; decide) (by omega) (by omega) (fun G5 S5 z1 z2 z3 z4 z5 z6 => ?_)
      have hP5 := hP4.grow (show N1 + 2 ≤ N1 + 2 + 2 by omega) z1 z2 z3 z5 z6
      rw [← z2.ad (show 0 < N1 + 2 by omega), ← z2.ad (show N < N1 + 2 by omega)]
      refine r_goto (tgt := 478) z1 dL_law_473 (by decide) ?_
      refine st_w (pc' := 481) z1 hP5.2.2.2.1 z4 (by show _ + ([] ++ [115] ++ dec' hh).length ≤ 16; omega) dL_law_478 rfl (by show 1 + (1 + 0) ≤ 8; decide) (by omega) (by omega) (fun S6 y1 y2 => ?_)
      refine stE G5 (N1 + 2 + 2) S6 _ _ ?_ (by omega) (by omega)
      rw [e3]
      exact hP5.keep y1 y2
    · have hE : tE s hh = [] := if_neg q1
      have e3 : tAll j r c p oo l s hh = tA j r c p oo ++ tB l ++ tC s ++ [] := by rw [← hE]; rfl
      have hll := hlen
      rw [e3, List.length_append] at hll
      rw [q2]
      refine r_if_le (tgt := 476) (pc' := 453) k1 dL_law_450 (by decide) rfl (fun _ => ?_) (fun c => absurd (by decide) c)
      refine r_ldcK (pc' := 478) (i := 6) (own := RL) k1 rfl dL_law_476 rfl ?_
      refine st_k (pc' := 481) (i := 6) k1 k4 (by decide) (by show _ + 0 ≤ 16; omega) dL_law_478 rfl (by show 1 + (1 + 0) ≤ 8; decide) (by omega) (by omega) (fun S6 y1 y2 => ?_)
      refine stE G1 N1 S6 _ _ ?_ (by omega) (by omega)
      rw [e3]
      exact hP0.keep y1 y2
  have stC : ∀ G1 N1 S1 a1 b1, PT X G N S D (tA j r c p oo ++ tB l) G1 N1 S1 → a1 ≤ a + 13 → b1 ≤ b + 94 → AW X G1 19 N1 429 lo [.ref (ad G1 N), .int sz, .ref (ad G1 0)] S1 a1 b1 := by
    intro G1 N1 S1 a1 b1 hP ha1 hb1
    have hP0 := hP
    obtain ⟨k1, k2, k3, k4, k5⟩ := hP
    have g1' : lget 1 lo = some (.ref (ad G1 0)) := by rw [k2.ad (show 0 < N by omega)]; exact g1
    refine r_aload_n (pc' := 430) k1 dL_law_429 rfl g1' ?_
    refine r_iload (pc' := 432) k1 dL_law_430 rfl g13 ?_
    refine r_callVL (pc' := 435) (st := [.ref (ad G1 N), .int sz, .ref (ad G1 0)]) (As := [.int (nI j)]) (M := mX4_isFailed) k1 dL_law_432 rfl lL_199 vX4_isFailed rfl k4.1.l0 k4.1.o0 rfl rfl (by show 1 + (1 + (1 + 0)) ≤ 8; decide) ⟨by decide, by decide, by show a1 + 1 ≤ 811098; omega, by show b1 + 6 ≤ 6651793; omega⟩ (kX4_isFailed k4.1 ?_)
    rw [if_pos v5, show inSt (dF D 0) (nI j) 2 = decide (s = 1) from v6 1 (by decide)]
    refine K_int ?_
    have hll := hlen
    unfold tAll at hll
    rw [List.length_append, List.length_append] at hll
    refine r_if_eqb (tgt := 443) (pc' := 438) k1 dL_law_435 (by decide) rfl (fun q => ?_) (fun q => ?_)
    · have hC : tC s = [] := if_neg (of_decide_eq_false q)
      refine r_ldcK (pc' := 445) (i := 6) (own := RL) k1 rfl dL_law_443 rfl ?_
      refine st_k (pc' := 448) (i := 6) k1 k4 (by decide) (by show _ + 0 ≤ 16; omega) dL_law_445 rfl (by show 1 + (1 + 0) ≤ 8; decide) (by show a1 + 1 ≤ 811098; omega) (by show b1 + 6 ≤ 6651793; omega) (fun S6 y1 y2 => ?_)
      refine stD G1 N1 S6 _ _ ?_ (by show a1 + 1 ≤ _; omega) (by show b1 + 6 ≤ _; omega)
      rw [hC]
      exact hP0.keep y1 y2
    · have hC : tC s = [120] := if_pos (of_decide_eq_true q)
      have hc1 : (tC s).length = 1 := by rw [hC]; rfl
      refine r_ldcK (pc' := 440) (i := 7) (own := RL) k1 rfl dL_law_438 rfl ?_
      refine r_goto (tgt := 445) k1 dL_law_440 (by decide) ?_
      refine st_k (pc' := 448) (i := 7) k1 k4 (by decide) (by show _ + 1 ≤ 16; omega) dL_law_445 rfl (by show 1 + (1 + 0) ≤ 8; decide) (by show a1 + 1 ≤ 811098; omega) (by show b1 + 6 ≤ 6651793; omega) (fun S6 y1 y2 => ?_)
      refine stD G1 N1 S6 _ _ ?_ (by show a1 + 1 ≤ _; omega) (by show b1 + 6 ≤ _; omega)
      rw [hC]
      exact hP0.keep y1 y2
  have stB : ∀ G1 N1 S1 a1 b1, PT X G N S D (tA j r c p oo) G1 N1 S1 → a1 ≤ a + 5 → b1 ≤ b + 38 → AW X G1 19 N1 393 lo [.ref (ad G1 N), .int sz, .ref (ad G1 0)] S1 a1 b1 := by
    intro G1 N1 S1 a1 b1 hP ha1 hb1
    have hP0 := hP
    obtain ⟨k1, k2, k3, k4, k5⟩ := hP
    refine r_iload (pc' := 395) k1 dL_law_393 rfl g16 ?_
    refine r_sipush (pc' := 398) (v := -30000) k1 dL_law_395 rfl (by decide) ?_
    rcases hlim with ⟨q1, q2⟩ | ⟨q1, q2⟩
    · have hB : tB l = [] := if_neg (by omega)
      rw [q2]
      refine r_icmp_eq (tgt := 424) (pc' := 401) k1 dL_law_398 (by decide) rfl (fun _ => ?_) (fun c => absurd rfl c)
      refine r_ldcK (pc' := 426) (i := 6) (own := RL) k1 rfl dL_law_424 rfl ?_
      refine st_k (pc' := 429) (i := 6) k1 k4 (by decide) (by show _ + 0 ≤ 16; omega) dL_law_426 rfl (by show 1 + (1 + 0) ≤ 8; decide) (by omega) (by omega) (fun S6 y1 y2 => ?_)
      refine stC G1 N1 S6 _ _ ?_ (by omega) (by omega)
      rw [hB]
      exact hP0.keep y1 y2
    · have hB : tB l = [] ++ [60] ++ dec' (l - 1) := if_pos q1
      have hd2 : (dec' (l - 1)).length ≤ 2 := dec_le
      have hl3 : ([] ++ [60] ++ dec' (l - 1)).length = 1 + (dec' (l - 1)).length := by simp only [List.length_append, List.length_nil, List.length_cons]
      rw [q2]
      refine r_icmp_eq (tgt := 424) (pc' := 401) k1 dL_law_398 (by decide) rfl (fun c => absurd c (fun z => nI_pos (n := l - 1) (by omega) (by rw [z]; decide))) (fun _ => ?_)
      refine st_new (pc' := 408) k1 k4.1 dL_law_401 dL_law_404 dL_law_405 ⟨rfl, rfl, rfl⟩ (by show 1 + (1 + (1 + 0)) ≤ 7; decide) (by omega) (by omega) (fun G2 S2 m1 m2 m3 m4 m5 m6 => ?_)
      have hP2 := hP0.grow (show N1 ≤ N1 + 2 by omega) m1 m2 m3 m5 m6
      rw [← m2.ad (show 0 < N1 by omega), ← m2.ad (show N < N1 by omega)]
      refine r_ldcK (pc' := 410) (i := 5) (own := RL) m1 rfl dL_law_408 rfl ?_
      refine st_k (pc' := 413) (i := 5) m1 ⟨m3, m4, by omega⟩ (by decide) (by decide) dL_law_410 rfl (by show 1 + (1 + (1 + 0)) ≤ 8; decide) (by omega) (by omega) (fun S3 n1 n2 => ?_)
      refine r_iload (pc' := 415) m1 dL_law_413 rfl g16 ?_
      rw [q2]
      refine st_i (pc' := 418) (v := l - 1) m1 n1 (by omega) (by rw [← dec_len]; show ([] ++ [60]).length + _ ≤ 16; simp only [List.length_append, List.length_nil, List.length_cons]; omega) dL_law_415 rfl (by show 1 + (1 + (1 + 0)) ≤ 8; decide) (by omega) (by omega) (fun S4 n3 n4 => ?_)
      have hP4 := (hP2.keepO (by omega) n2).keepO (by omega) n4
      refine st_t (pc' := 421) m1 n3 (by show ([] ++ [60] ++ dec' (l - 1)).length < 16; omega) dL_law_418 rfl (by show 1 + (1 + (1 + 0)) ≤ 8; decide) (by omega) (by omega) (fun G5 S5 z1 z2 z3 z4 z5 z6 => ?_)
      have hP5 := hP4.grow (show N1 + 2 ≤ N1 + 2 + 2 by omega) z1 z2 z3 z5 z6
      rw [← z2.ad (show 0 < N1 + 2 by omega), ← z2.ad (show N < N1 + 2 by omega)]
      refine r_goto (tgt := 426) z1 dL_law_421 (by decide) ?_
      refine st_w (pc' := 429) z1 hP5.2.2.2.1 z4 (by show _ + ([] ++ [60] ++ dec' (l - 1)).length ≤ 16; omega) dL_law_426 rfl (by show 1 + (1 + 0) ≤ 8; decide) (by omega) (by omega) (fun S6 y1 y2 => ?_)
      refine stC G5 (N1 + 2 + 2) S6 _ _ ?_ (by omega) (by omega)
      rw [hB]
      exact hP5.keep y1 y2
  refine st_new (pc' := 336) h hD dL_law_329 dL_law_332 dL_law_333 ⟨rfl, rfl, rfl⟩ (by show 1 + (1 + 0) ≤ 7; decide) (by omega) (by omega) (fun G1 S1 m1 m2 m3 m4 m5 m6 => ?_)
  have g1' : lget 1 lo = some (.ref (ad G1 0)) := by rw [m2.ad (show 0 < N by omega)]; exact g1
  have q0 : PT X G N S D [] G1 (N + 2) S1 := ⟨m1, m2, Nat.le_refl _, ⟨m3, m4, by omega⟩, m5⟩
  rw [← m2.ad (show 0 < N by omega)]
  have Lj : (dec' j).length ≤ 2 := dec_le
  have Lr : dgs' r = 1 := if_pos (by omega)
  have Lc : dgs' c = 1 := if_pos (by omega)
  have Lp : dgs' p = 1 := if_pos (by omega)
  have Lo : dgs' oo ≤ 2 := by unfold dgs'; split <;> omega
  have Lj2 : dgs' j ≤ 2 := by unfold dgs'; split <;> omega
  refine r_iload (pc' := 338) m1 dL_law_336 rfl g13 ?_
  refine st_i (pc' := 341) (v := j) m1 q0.2.2.2.1 (by omega) (by simp only [List.length_append, List.length_nil, List.length_cons, dec_len, sN, List.getD_cons_succ, List.getD_cons_zero]; omega) dL_law_338 rfl (by show 1 + (1 + 0) ≤ 8; decide) (by show a + 2 ≤ _; omega) (by show b + 20 ≤ _; omega) (fun T0 u0 w0 => ?_)
  have q1 := q0.keep u0 w0
  refine r_ldcK (pc' := 343) (i := 1) (own := RL) m1 rfl dL_law_341 rfl ?_
  refine st_k (pc' := 346) (i := 1) m1 q1.2.2.2.1 (by decide) (by show _ + 1 ≤ 16; simp only [List.length_append, List.length_nil, List.length_cons, dec_len, sN, List.getD_cons_succ, List.getD_cons_zero]; omega) dL_law_343 rfl (by show 1 + (1 + 0) ≤ 8; decide) (by show a + 2 ≤ _; omega) (by show b + 20 ≤ _; omega) (fun T1 u1 w1 => ?_)
  have q2 := q1.keep u1 w1
  refine r_aload_n (pc' := 347) m1 dL_law_346 rfl g1' ?_
  refine r_iload (pc' := 349) m1 dL_law_347 rfl g13 ?_
  refine r_callVL (pc' := 352) (st := [.ref (ad G1 N), .int sz, .ref (ad G1 0)]) (As := [.int (nI j)]) (M := mX4_rowOf) m1 dL_law_349 rfl lL_135 vX4_rowOf rfl q2.2.2.2.1.1.l0 q2.2.2.2.1.1.o0 rfl rfl (by show 1 + (1 + (1 + 0)) ≤ 8; decide) ⟨by decide, by decide, by show a + 2 + 1 ≤ 811098; omega, by show b + 20 + 6 ≤ 6651793; omega⟩ (kX4_rowOf q2.2.2.2.1.1 ?_)
  rw [if_pos v5, v0]
  refine K_int ?_
  refine st_i (pc' := 355) (v := r) m1 q2.2.2.2.1 (by omega) (by simp only [List.length_append, List.length_nil, List.length_cons, dec_len, sN, List.getD_cons_succ, List.getD_cons_zero]; omega) dL_law_352 rfl (by show 1 + (1 + 0) ≤ 8; decide) (by show a + 3 ≤ _; omega) (by show b + 26 ≤ _; omega) (fun T2 u2 w2 => ?_)
  have q3 := q2.keep u2 w2
  refine r_ldcK (pc' := 357) (i := 2) (own := RL) m1 rfl dL_law_355 rfl ?_
  refine st_k (pc' := 360) (i := 2) m1 q3.2.2.2.1 (by decide) (by show _ + 1 ≤ 16; simp only [List.length_append, List.length_nil, List.length_cons, dec_len, sN, List.getD_cons_succ, List.getD_cons_zero]; omega) dL_law_357 rfl (by show 1 + (1 + 0) ≤ 8; decide) (by show a + 3 ≤ _; omega) (by show b + 26 ≤ _; omega) (fun T3 u3 w3 => ?_)
  have q4 := q3.keep u3 w3
  refine r_aload_n (pc' := 361) m1 dL_law_360 rfl g1' ?_
  refine r_iload (pc' := 363) m1 dL_law_361 rfl g13 ?_
  refine r_callVL (pc' := 366) (st := [.ref (ad G1 N), .int sz, .ref (ad G1 0)]) (As := [.int (nI j)]) (M := mX4_columnOf) m1 dL_law_363 rfl lL_138 vX4_columnOf rfl q4.2.2.2.1.1.l0 q4.2.2.2.1.1.o0 rfl rfl (by show 1 + (1 + (1 + 0)) ≤ 8; decide) ⟨by decide, by decide, by show a + 3 + 1 ≤ 811098; omega, by show b + 26 + 6 ≤ 6651793; omega⟩ (kX4_columnOf q4.2.2.2.1.1 ?_)
  rw [if_pos v5, v1]
  refine K_int ?_
  refine st_i (pc' := 369) (v := c) m1 q4.2.2.2.1 (by omega) (by simp only [List.length_append, List.length_nil, List.length_cons, dec_len, sN, List.getD_cons_succ, List.getD_cons_zero]; omega) dL_law_366 rfl (by show 1 + (1 + 0) ≤ 8; decide) (by show a + 4 ≤ _; omega) (by show b + 32 ≤ _; omega) (fun T4 u4 w4 => ?_)
  have q5 := q4.keep u4 w4
  refine r_ldcK (pc' := 371) (i := 3) (own := RL) m1 rfl dL_law_369 rfl ?_
  refine st_k (pc' := 374) (i := 3) m1 q5.2.2.2.1 (by decide) (by show _ + 1 ≤ 16; simp only [List.length_append, List.length_nil, List.length_cons, dec_len, sN, List.getD_cons_succ, List.getD_cons_zero]; omega) dL_law_371 rfl (by show 1 + (1 + 0) ≤ 8; decide) (by show a + 4 ≤ _; omega) (by show b + 32 ≤ _; omega) (fun T5 u5 w5 => ?_)
  have q6 := q5.keep u5 w5
  refine r_aload_n (pc' := 375) m1 dL_law_374 rfl g1' ?_
  refine r_iload (pc' := 377) m1 dL_law_375 rfl g13 ?_
  refine r_callVL (pc' := 380) (st := [.ref (ad G1 N), .int sz, .ref (ad G1 0)]) (As := [.int (nI j)]) (M := mX4_ratedPower) m1 dL_law_377 rfl lL_153 vX4_ratedPower rfl q6.2.2.2.1.1.l0 q6.2.2.2.1.1.o0 rfl rfl (by show 1 + (1 + (1 + 0)) ≤ 8; decide) ⟨by decide, by decide, by show a + 4 + 1 ≤ 811098; omega, by show b + 32 + 6 ≤ 6651793; omega⟩ (kX4_ratedPower q6.2.2.2.1.1 ?_)
  rw [if_pos v5, v2]
  refine K_int ?_
  refine st_i (pc' := 383) (v := p) m1 q6.2.2.2.1 (by omega) (by simp only [List.length_append, List.length_nil, List.length_cons, dec_len, sN, List.getD_cons_succ, List.getD_cons_zero]; omega) dL_law_380 rfl (by show 1 + (1 + 0) ≤ 8; decide) (by show a + 5 ≤ _; omega) (by show b + 38 ≤ _; omega) (fun T6 u6 w6 => ?_)
  have q7 := q6.keep u6 w6
  refine r_ldcK (pc' := 385) (i := 4) (own := RL) m1 rfl dL_law_383 rfl ?_
  refine st_k (pc' := 388) (i := 4) m1 q7.2.2.2.1 (by decide) (by show _ + 1 ≤ 16; simp only [List.length_append, List.length_nil, List.length_cons, dec_len, sN, List.getD_cons_succ, List.getD_cons_zero]; omega) dL_law_385 rfl (by show 1 + (1 + 0) ≤ 8; decide) (by show a + 5 ≤ _; omega) (by show b + 38 ≤ _; omega) (fun T7 u7 w7 => ?_)
  have q8 := q7.keep u7 w7
  refine r_iload (pc' := 390) m1 dL_law_388 rfl g14 ?_
  refine st_i (pc' := 393) (v := oo) m1 q8.2.2.2.1 (by omega) (by simp only [List.length_append, List.length_nil, List.length_cons, dec_len, sN, List.getD_cons_succ, List.getD_cons_zero]; omega) dL_law_390 rfl (by show 1 + (1 + 0) ≤ 8; decide) (by show a + 5 ≤ _; omega) (by show b + 38 ≤ _; omega) (fun T8 u8 w8 => ?_)
  have q9 := q8.keep u8 w8
  exact stB G1 (N + 2) T8 _ _ q9 (by show a + 5 ≤ _; omega) (by show b + 38 ≤ _; omega)
