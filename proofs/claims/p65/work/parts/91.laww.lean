/-! THE LAW'S LOOPS over turbines, over winds. -/
abbrev LM (G : GX) (q0 : Nat) (tt n d0 sp tot run srv bids nxt best most k : Int32) : List (Nat × Value) := [(0, .ref q0), (1, .ref (ad G 0)), (2, .int tt), (3, .int n), (4, .int tot), (5, .int run), (6, .int srv), (7, .int bids), (8, .int nxt), (9, .int best), (10, .int most), (11, .int d0), (12, .int sp), (13, .int k)]
theorem nat_ge {j n : Nat} (h1 : j ≤ n) (hn : n < 2 ^ 31) (h : nI n ≤ nI j) : j = n := by
  have := (nI_leI hn (by omega)).mp h
  omega
theorem nat_lt {j n : Nat} (hj : j < 2 ^ 31) (h : ¬ nI n ≤ nI j) : j < n := by
  rcases Nat.lt_or_ge j n with z | z
  · exact z
  · exact absurd (nI_le z hj) h
theorem law_kl {X : CX} {G : GX} {B w sp q0 a b : Nat} {S : Nat → va_E} {D : DM} {Q : MM} {tt : Int32} (h : OK X G 119 code RL 19 rmL) (hD : isD G 119 S D) (hR : Rel B 0 D Q) (hw : w < 4) (e1 : fI (dF D 0) 1 = qSgn (nI w)) (e2 : fI (dF D 0) 2 = nI sp) (ha : a + 1440 ≤ 811098) (hb : b + 10800 ≤ 6651793)
    (kk : ∀ S1 D1 Q1, isD G 119 S1 D1 → Rel B 0 D1 Q1 → dF D1 0 = dF D 0 → mM Q1 = mM Q → AW X G 19 119 539 (LK G q0 tt (nI (qN (mM Q))) (qSgn (nI w)) (nI sp) (sumI (dF D 0) (qSgn (nI w)) (nI sp) (qN (mM Q))) (cSt (dF D 0) 1 (qN (mM Q))) (cSt (dF D 0) 3 (qN (mM Q))) (nI (qN (mM Q)))) [] S1 (a + 1440) (b + 10800)) : AW X G 19 119 77 (LK G q0 tt (nI (qN (mM Q))) (qSgn (nI w)) (nI sp) 0 0 0 0) [] S a b := by
  have h12 := hR.2.1.1.1.2
  have loop : ∀ (n j : Nat), j ≤ qN (mM Q) → qN (mM Q) - j < n → ∀ S1 D1 Q1, isD G 119 S1 D1 → Rel B 0 D1 Q1 → dF D1 0 = dF D 0 → mM Q1 = mM Q → AW X G 19 119 77 (LK G q0 tt (nI (qN (mM Q))) (qSgn (nI w)) (nI sp) (sumI (dF D 0) (qSgn (nI w)) (nI sp) j) (cSt (dF D 0) 1 j) (cSt (dF D 0) 3 j) (nI j)) [] S1 (a + 120 * j) (b + 900 * j) := by
    intro n
    induction n with
    | zero => intro j h1 h2; exact absurd h2 (by omega)
    | succ n ih =>
      intro j h1 h2 S1 D1 Q1 hD1 hR1 f1 f2
      refine r_iload (pc' := 79) h dL_law_77 rfl rfl ?_
      refine r_iload_n (pc' := 80) h dL_law_79 rfl rfl ?_
      refine r_icmp_ge (tgt := 539) (pc' := 83) h dL_law_80 (by decide) rfl (fun c0 => ?_) (fun c0 => ?_)
      · obtain rfl : j = qN (mM Q) := nat_ge h1 (by omega) c0
        exact r_widen (by omega) (by omega) (kk S1 D1 Q1 hD1 hR1 f1 f2)
      · have hj := nat_lt (show j < 2 ^ 31 by omega) c0
        rw [← f1]
        refine law_k h hD1 hR1 (by rw [f2]; exact hj) hw (by rw [f1]; exact e1) (by rw [f1]; exact e2) (by omega) (by omega) (fun S2 D2 Q2 hD2 hR2 g1 g2 => ?_)
        rw [f1]
        exact r_widen (by omega) (by omega) (ih (j + 1) (by omega) (by omega) S2 D2 Q2 hD2 hR2 (g1.trans f1) (g2.trans f2))
  exact loop (qN (mM Q) + 1) 0 (Nat.zero_le _) (by omega) S D Q hD hR rfl rfl
theorem wind_ok {j v : Nat} (hj : j < 4) (hv : v < 31) : isWind' (qSgn (nI j)) (nI v) = true := by
  unfold isWind'
  have h1 : wIn (nI v) (nI 0) (nI 30) = true := wIn_ok (Nat.zero_le _) (by omega) (by decide)
  have h2 : ∀ j, j < 4 → isDir' (qSgn (nI j)) = true := by decide +kernel
  rw [h2 j hj, show (0 : Int32) = nI 0 from rfl, show (30 : Int32) = nI 30 from rfl, h1]
  rfl
theorem law_wv {X : CX} {G : GX} {B n w sp q0 a b : Nat} {S : Nat → va_E} {D : DM} {Q : MM} {tt tot run srv : Int32} (h : OK X G 119 code RL 19 rmL) (hD : isD G 119 S D) (hR : Rel B 0 D Q) (hn : n = qN (mM Q)) (hw : w < 4) (hsp : sp < 31) (e1 : fI (dF D 0) 1 = qSgn (nI w)) (e2 : fI (dF D 0) 2 = nI sp) {bids nxt best most : Int32} {j v : Nat} (hj : j < 4) (hv : v < 31) (ha : a + 170 ≤ 811098) (hb : b + 1030 ≤ 6651793) {ex : List (Nat × Value)} (hex : ex = [] ∨ ∃ x y : Int32, ex = [(15, .int x), (16, .int y)])
    (kk : ∀ y : Int32, AW X G 19 119 612 ((LM G q0 tt (nI n) (qSgn (nI w)) (nI sp) tot run srv bids nxt best most (nI j) ++ [(14, .int (nI v))]) ++ [(15, .int (sumI (dF D 0) (qSgn (nI j)) (nI v) n)), (16, .int y)]) [] S (a + 170) (b + 1030)) : AW X G 19 119 558 ((LM G q0 tt (nI n) (qSgn (nI w)) (nI sp) tot run srv bids nxt best most (nI j) ++ [(14, .int (nI v))]) ++ ex) [] S a b := by
  have hM := hR.2.1.1
  have hF := hR.2.1.2
  have h12 := hM.1.2
  have hwf := hR.v.2.2.1
  have hfn := fN_eq hF.1
  have start : AW X G 19 119 564 ((LM G q0 tt (nI n) (qSgn (nI w)) (nI sp) tot run srv bids nxt best most (nI j) ++ [(14, .int (nI v))]) ++ [(15, .int 0), (16, .int 0)]) [] S a b → AW X G 19 119 558 ((LM G q0 tt (nI n) (qSgn (nI w)) (nI sp) tot run srv bids nxt best most (nI j) ++ [(14, .int (nI v))]) ++ ex) [] S a b := by
    intro k0
    rcases hex with rfl | ⟨x, y, rfl⟩
    · refine r_iconst (pc' := 559) (v := 0) h dL_law_558 rfl (by decide) ?_
      refine r_istore (pc' := 561) h dL_law_559 rfl (by decide) rfl ?_
      refine r_iconst (pc' := 562) (v := 0) h dL_law_561 rfl (by decide) ?_
      refine r_istore (pc' := 564) h dL_law_562 rfl (by decide) rfl ?_
      exact k0
    · refine r_iconst (pc' := 559) (v := 0) h dL_law_558 rfl (by decide) ?_
      refine r_istore (pc' := 561) h dL_law_559 rfl (by decide) rfl ?_
      refine r_iconst (pc' := 562) (v := 0) h dL_law_561 rfl (by decide) ?_
      refine r_istore (pc' := 564) h dL_law_562 rfl (by decide) rfl ?_
      exact k0
  refine start ?_
  have loop : ∀ (m k : Nat), k ≤ n → n - k < m → AW X G 19 119 564 ((LM G q0 tt (nI n) (qSgn (nI w)) (nI sp) tot run srv bids nxt best most (nI j) ++ [(14, .int (nI v))]) ++ [(15, .int (sumI (dF D 0) (qSgn (nI j)) (nI v) k)), (16, .int (nI k))]) [] S (a + 14 * k) (b + 84 * k) := by
    intro m
    induction m with
    | zero => intro k h1 h2; exact absurd h2 (by omega)
    | succ m ih =>
      intro k h1 h2
      refine r_iload (pc' := 566) h dL_law_564 rfl rfl ?_
      refine r_iload_n (pc' := 567) h dL_law_566 rfl rfl ?_
      refine r_icmp_ge (tgt := 594) (pc' := 570) h dL_law_567 (by decide) rfl (fun c0 => ?_) (fun c0 => ?_)
      · obtain rfl : k = n := nat_ge h1 (by omega) c0
        refine r_widen (a' := a + 14 * k + 0) (b' := b + 84 * k + 0) (by omega) (by omega) ?_
        refine r_aload_n (pc' := 595) h dL_law_594 rfl rfl ?_
        refine r_iload (pc' := 597) h dL_law_595 rfl rfl ?_
        refine r_callSK (st := [.ref (ad G 0)]) (As := [.int (nI j)]) (M := mL_way) (pc' := 600) h dL_law_597 rfl lL_95 vL_way rfl rfl (Nat.le_of_ble_eq_true rfl) ⟨by decide, by decide, by show a + 14 * k + 0 + 0 ≤ 811098; omega, by show b + 84 * k + 0 + 0 ≤ 6651793; omega⟩ (kL_way (K_int ?_))
        rw [wayI_w j hj]
        refine r_iload (pc' := 602) h dL_law_600 rfl rfl ?_
        refine r_callVL (st := []) (As := [.int (qSgn (nI j)), .int (nI v)]) (M := mX4_outputWith) (pc' := 605) h dL_law_602 rfl lL_251 vX4_outputWith rfl hD.l0 hD.o0 rfl rfl (Nat.le_of_ble_eq_true rfl) ⟨by decide, by decide, by show a + 14 * k + 0 + 1 ≤ 811098; omega, by show b + 84 * k + 0 + 6 ≤ 6651793; omega⟩ (kX4_outputWith hD hwf ?_)
        rw [if_pos (wind_ok hj hv), hfn, ← hn]
        refine K_int ?_
        refine r_widen (a' := a + 14 * k + 1) (b' := b + 84 * k + 6) (by show a + 14 * k + 0 + 1 ≤ a + 14 * k + 1; omega) (by show b + 84 * k + 0 + 6 ≤ b + 84 * k + 6; omega) ?_
        refine r_iload (pc' := 607) h dL_law_605 rfl rfl ?_
        refine r_icmp_eq (tgt := 612) (pc' := 610) h dL_law_607 (by decide) rfl (fun _ => ?_) (fun c => absurd rfl c)
        exact r_widen (by show a + 14 * k + 1 ≤ _; omega) (by show b + 84 * k + 6 ≤ _; omega) (kk _)
      · have hk := nat_lt (show k < 2 ^ 31 by omega) c0
        refine r_widen (a' := a + 14 * k + 0) (b' := b + 84 * k + 0) (by omega) (by omega) ?_
        refine r_iload (pc' := 572) h dL_law_570 rfl rfl ?_
        refine r_aload_n (pc' := 573) h dL_law_572 rfl rfl ?_
        refine r_iload (pc' := 575) h dL_law_573 rfl rfl ?_
        refine r_iload (pc' := 577) h dL_law_575 rfl rfl ?_
        refine r_callSK (st := [.int (nI k), .ref (ad G 0), .int (sumI (dF D 0) (qSgn (nI j)) (nI v) k)]) (As := [.int (nI j)]) (M := mL_way) (pc' := 580) h dL_law_577 rfl lL_95 vL_way rfl rfl (Nat.le_of_ble_eq_true rfl) ⟨by decide, by decide, by show a + 14 * k + 0 + 0 ≤ 811098; omega, by show b + 84 * k + 0 + 0 ≤ 6651793; omega⟩ (kL_way (K_int ?_))
        rw [wayI_w j hj]
        refine r_iload (pc' := 582) h dL_law_580 rfl rfl ?_
        refine r_callSK (st := [.int (sumI (dF D 0) (qSgn (nI j)) (nI v) k)]) (As := [.ref (ad G 0), .int (nI k), .int (qSgn (nI j)), .int (nI v)]) (M := mL_output) (pc' := 585) h dL_law_582 rfl lL_193 vL_output rfl rfl (Nat.le_of_ble_eq_true rfl) ⟨by decide, by decide, by show a + 14 * k + 0 + 14 ≤ 811098; omega, by show b + 84 * k + 0 + 84 ≤ 6651793; omega⟩ (kL_output hD hM hF (w := j) (sp := v) (by omega) hj (K_int ?_))
        refine r_widen (a' := a + 14 * k + 14) (b' := b + 84 * k + 84) (by show a + 14 * k + 0 + 14 ≤ a + 14 * k + 14; omega) (by show b + 84 * k + 0 + 84 ≤ b + 84 * k + 84; omega) ?_
        refine r_iadd (pc' := 586) h dL_law_585 rfl ?_
        refine r_istore (pc' := 588) h dL_law_586 rfl (by decide) rfl ?_
        refine r_iinc (pc' := 591) (v := 1) h dL_law_588 rfl (by decide) (by decide) rfl rfl ?_
        refine r_goto (tgt := 564) h dL_law_591 (by decide) ?_
        rw [nI_1]
        exact r_widen (by show a + 14 * k + 14 ≤ _; omega) (by show b + 84 * k + 84 ≤ _; omega) (ih (k + 1) (by omega) (by omega))
  exact loop (n + 1) 0 (Nat.zero_le _) (by omega)
theorem law_w1 {X : CX} {G : GX} {B n w sp q0 a b : Nat} {S : Nat → va_E} {D : DM} {Q : MM} {tt tot run srv : Int32} (h : OK X G 119 code RL 19 rmL) (hD : isD G 119 S D) (hR : Rel B 0 D Q) (hn : n = qN (mM Q)) (hw : w < 4) (hsp : sp < 31) (e1 : fI (dF D 0) 1 = qSgn (nI w)) (e2 : fI (dF D 0) 2 = nI sp) {bids nxt best most : Int32} {j : Nat} (hj : j < 4) (hbm : most = (zBd (dF D 0) j).2 ∧ wayI best = (zBd (dF D 0) j).1) (ha : a + 700 ≤ 811098) (hb : b + 4200 ≤ 6651793)
    (kk : ∀ best1 most1 : Int32, (most1 = (zBd (dF D 0) (j + 1)).2 ∧ wayI best1 = (zBd (dF D 0) (j + 1)).1) → AW X G 19 119 542 (LM G q0 tt (nI n) (qSgn (nI w)) (nI sp) tot run srv bids nxt best1 most1 (nI (j + 1))) [] S (a + 700) (b + 4200)) : AW X G 19 119 548 (LM G q0 tt (nI n) (qSgn (nI w)) (nI sp) tot run srv bids nxt best most (nI j)) [] S a b := by
  have hM := hR.2.1.1
  have hF := hR.2.1.2
  have h12 := hM.1.2
  have hwf := hR.v.2.2.1
  have hfn := fN_eq hF.1
  have hz : zBd (dF D 0) (j + 1) = if sumI (dF D 0) (qSgn (nI j)) (nI sp) n ≤ most then zBd (dF D 0) j else (qSgn (nI j), sumI (dF D 0) (qSgn (nI j)) (nI sp) n) := by
    show (if sumI (dF D 0) (sCh 0 j) (fI (dF D 0) 2) (fN (dF D 0)) ≤ (zBd (dF D 0) j).2 then zBd (dF D 0) j else (sCh 0 j, sumI (dF D 0) (sCh 0 j) (fI (dF D 0) 2) (fN (dF D 0)))) = _
    rw [sCh_sgn j hj, e2, hfn, ← hn, hbm.1]
  have t618 : ∀ ex : List (Nat × Value), (∃ x y z : Int32, ex = [(14, .int x), (15, .int y), (16, .int z)]) → AW X G 19 119 618 (LM G q0 tt (nI n) (qSgn (nI w)) (nI sp) tot run srv bids nxt best most (nI j) ++ ex) [] S (a + 680) (b + 4120) := by
    intro ex hex
    obtain ⟨x, y, z, rfl⟩ := hex
    refine r_aload_n (pc' := 619) h dL_law_618 rfl rfl ?_
    refine r_iload (pc' := 621) h dL_law_619 rfl rfl ?_
    refine r_callSK (st := [.ref (ad G 0)]) (As := [.int (nI j)]) (M := mL_way) (pc' := 624) h dL_law_621 rfl lL_95 vL_way rfl rfl (Nat.le_of_ble_eq_true rfl) ⟨by decide, by decide, by show a + 680 + 0 ≤ 811098; omega, by show b + 4120 + 0 ≤ 6651793; omega⟩ (kL_way (K_int ?_))
    rw [wayI_w j hj]
    refine r_iload (pc' := 626) h dL_law_624 rfl rfl ?_
    refine r_callVL (st := []) (As := [.int (qSgn (nI j)), .int (nI sp)]) (M := mX4_outputWith) (pc' := 629) h dL_law_626 rfl lL_251 vX4_outputWith rfl hD.l0 hD.o0 rfl rfl (Nat.le_of_ble_eq_true rfl) ⟨by decide, by decide, by show a + 680 + 1 ≤ 811098; omega, by show b + 4120 + 6 ≤ 6651793; omega⟩ (kX4_outputWith hD hwf ?_)
    rw [if_pos (wind_ok hj hsp), hfn, ← hn]
    refine K_int ?_
    refine r_widen (a' := a + 681) (b' := b + 4126) (by show a + 680 + 1 ≤ a + 681; omega) (by show b + 4120 + 6 ≤ b + 4126; omega) ?_
    refine r_istore (pc' := 631) h dL_law_629 rfl (by decide) rfl ?_
    refine r_iload (pc' := 633) h dL_law_631 rfl rfl ?_
    refine r_iload (pc' := 635) h dL_law_633 rfl rfl ?_
    refine r_icmp_le (tgt := 643) (pc' := 638) h dL_law_635 (by decide) rfl (fun c1 => ?_) (fun c1 => ?_)
    · refine r_iload (pc' := 645) h dL_law_643 rfl rfl ?_
      refine r_istore (pc' := 647) h dL_law_645 rfl (by decide) rfl ?_
      refine r_iload (pc' := 649) h dL_law_647 rfl rfl ?_
      refine r_iload (pc' := 651) h dL_law_649 rfl rfl ?_
      refine r_max (pc' := 654) (own := RL) h dL_law_651 rfl lL_159 ⟨rfl, by show a + 681 ≤ 811098; omega, by show b + 4126 ≤ 6651793; omega⟩ ?_
      refine r_istore (pc' := 656) h dL_law_654 rfl (by decide) rfl ?_
      refine r_iinc (pc' := 659) (v := 1) h dL_law_656 rfl (by decide) (by decide) rfl rfl ?_
      refine r_goto (tgt := 542) h dL_law_659 (by decide) ?_
      rw [nI_1]
      refine r_sub (lo' := LM G q0 tt (nI n) (qSgn (nI w)) (nI sp) tot run srv bids nxt _ _ (nI (j + 1))) [0, 1, 2, 3, 4, 5, 6, 7, 8, 9, 10, 11, 12, 13] rfl ?_
      exact r_widen (by show a + 681 ≤ a + 700; omega) (by show b + 4126 ≤ b + 4200; omega) (kk _ _ ⟨by rw [hz, if_pos c1, if_neg (Int32.not_lt.mpr c1)]; exact hbm.1, by rw [hz, if_pos c1]; exact hbm.2⟩)
    · refine r_iload (pc' := 640) h dL_law_638 rfl rfl ?_
      refine r_goto (tgt := 645) h dL_law_640 (by decide) ?_
      refine r_istore (pc' := 647) h dL_law_645 rfl (by decide) rfl ?_
      refine r_iload (pc' := 649) h dL_law_647 rfl rfl ?_
      refine r_iload (pc' := 651) h dL_law_649 rfl rfl ?_
      refine r_max (pc' := 654) (own := RL) h dL_law_651 rfl lL_159 ⟨rfl, by show a + 681 ≤ 811098; omega, by show b + 4126 ≤ 6651793; omega⟩ ?_
      refine r_istore (pc' := 656) h dL_law_654 rfl (by decide) rfl ?_
      refine r_iinc (pc' := 659) (v := 1) h dL_law_656 rfl (by decide) (by decide) rfl rfl ?_
      refine r_goto (tgt := 542) h dL_law_659 (by decide) ?_
      rw [nI_1]
      refine r_sub (lo' := LM G q0 tt (nI n) (qSgn (nI w)) (nI sp) tot run srv bids nxt _ _ (nI (j + 1))) [0, 1, 2, 3, 4, 5, 6, 7, 8, 9, 10, 11, 12, 13] rfl ?_
      exact r_widen (by show a + 681 ≤ a + 700; omega) (by show b + 4126 ≤ b + 4200; omega) (kk _ _ ⟨by rw [hz, if_neg c1, if_pos (Int32.not_le.mp c1)], by rw [hz, if_neg c1]; exact wayI_w j hj⟩)
  have t551 : ∀ (m i : Nat), i ≤ 4 → 4 - i < m → ∀ ex : List (Nat × Value), (ex = [] ∧ i = 0 ∨ ∃ x y : Int32, ex = [(15, .int x), (16, .int y)]) → AW X G 19 119 551 (LM G q0 tt (nI n) (qSgn (nI w)) (nI sp) tot run srv bids nxt best most (nI j) ++ [(14, .int (nI (4 + 6 * i)))] ++ ex) [] S (a + 170 * i) (b + 1030 * i) := by
    intro m
    induction m with
    | zero => intro i h1 h2; exact absurd h2 (by omega)
    | succ m ih =>
      intro i h1 h2 ex hex
      have hex2 : ex = [] ∨ ∃ x y : Int32, ex = [(15, .int x), (16, .int y)] := hex.imp (fun q => q.1) (fun q => q)
      have k1 : ∀ lo2 : List (Nat × Value), lget 14 lo2 = some (.int (nI (4 + 6 * i))) → (i = 4 → AW X G 19 119 618 lo2 [] S (a + 170 * i) (b + 1030 * i)) → (i < 4 → AW X G 19 119 558 lo2 [] S (a + 170 * i) (b + 1030 * i)) → AW X G 19 119 551 lo2 [] S (a + 170 * i) (b + 1030 * i) := by
        intro lo2 g14 ka kb
        refine r_iload (pc' := 553) h dL_law_551 rfl g14 ?_
        refine r_bipush (pc' := 555) (v := 24) h dL_law_553 rfl (by decide) ?_
        refine r_icmp_ge (tgt := 618) (pc' := 558) h dL_law_555 (by decide) rfl (fun c0 => ?_) (fun c0 => ?_)
        · exact ka (by
            have := (nI_leI (a := 24) (b := 4 + 6 * i) (by decide) (by omega)).mp c0
            omega)
        · exact kb (by
            rcases Nat.lt_or_ge i 4 with z | z
            · exact z
            · exact absurd (nI_le (a := 24) (b := 4 + 6 * i) (by omega) (by omega)) c0)
      refine k1 _ (by rcases hex2 with rfl | ⟨x, y, rfl⟩ <;> rfl) (fun q => ?_) (fun q => ?_)
      · subst q
        rcases hex with ⟨-, z⟩ | ⟨x, y, rfl⟩
        · exact absurd z (by decide)
        · exact r_widen (by omega) (by omega) (t618 _ ⟨_, x, y, rfl⟩)
      · refine law_wv h hD hR hn hw hsp e1 e2 hj (v := 4 + 6 * i) (by omega) (by omega) (by omega) hex2 (fun y => ?_)
        refine r_iinc (pc' := 615) (v := 6) h dL_law_612 rfl (by decide) (by decide) rfl rfl ?_
        refine r_goto (tgt := 551) h dL_law_615 (by decide) ?_
        rw [show nI (4 + 6 * i) + 6 = nI (4 + 6 * (i + 1)) from (nI_add (4 + 6 * i) 6).trans (by rw [show 4 + 6 * i + 6 = 4 + 6 * (i + 1) by omega])]
        exact r_widen (by omega) (by omega) (ih (i + 1) (by omega) (by omega) [(15, _), (16, _)] (Or.inr ⟨_, _, rfl⟩))
  refine r_iconst (pc' := 549) (v := 4) h dL_law_548 rfl (by decide) ?_
  refine r_istore (pc' := 551) h dL_law_549 rfl (by decide) rfl ?_
  exact t551 5 0 (by decide) (by decide) [] (Or.inl ⟨rfl, rfl⟩)
theorem law_w {X : CX} {G : GX} {B n w sp q0 a b : Nat} {S : Nat → va_E} {D : DM} {Q : MM} {tt tot run srv : Int32} (h : OK X G 119 code RL 19 rmL) (hD : isD G 119 S D) (hR : Rel B 0 D Q) (hn : n = qN (mM Q)) (hw : w < 4) (hsp : sp < 31) (e1 : fI (dF D 0) 1 = qSgn (nI w)) (e2 : fI (dF D 0) 2 = nI sp) {k0 : Int32} (ha : a + 2800 ≤ 811098) (hb : b + 16800 ≤ 6651793)
    (kk : ∀ best most : Int32, wayI best = (zBd (dF D 0) 4).1 → AW X G 19 119 662 (LM G q0 tt (nI n) (qSgn (nI w)) (nI sp) tot run srv 0 (-30000) best most 4) [] S (a + 2800) (b + 16800)) : AW X G 19 119 539 (LM G q0 tt (nI n) (qSgn (nI w)) (nI sp) tot run srv 0 (-30000) 0 (-1) k0) [] S a b := by
  have loop : ∀ (m j : Nat), j ≤ 4 → 4 - j < m → ∀ best most : Int32, (most = (zBd (dF D 0) j).2 ∧ wayI best = (zBd (dF D 0) j).1) → AW X G 19 119 542 (LM G q0 tt (nI n) (qSgn (nI w)) (nI sp) tot run srv 0 (-30000) best most (nI j)) [] S (a + 700 * j) (b + 4200 * j) := by
    intro m
    induction m with
    | zero => intro j h1 h2; exact absurd h2 (by omega)
    | succ m ih =>
      intro j h1 h2 best most hbm
      refine r_iload (pc' := 544) h dL_law_542 rfl rfl ?_
      refine r_iconst (pc' := 545) (v := 4) h dL_law_544 rfl (by decide) ?_
      refine r_icmp_ge (tgt := 662) (pc' := 548) h dL_law_545 (by decide) rfl (fun c0 => ?_) (fun c0 => ?_)
      · obtain rfl : j = 4 := nat_ge h1 (by decide) c0
        exact kk best most hbm.2
      · have hj : j < 4 := nat_lt (show j < 2 ^ 31 by omega) c0
        exact law_w1 h hD hR hn hw hsp e1 e2 hj hbm (by omega) (by omega) (fun best1 most1 hb1 => r_widen (by omega) (by omega) (ih (j + 1) (by omega) (by omega) best1 most1 hb1))
  refine r_iconst (pc' := 540) (v := 0) h dL_law_539 rfl (by decide) ?_
  refine r_istore (pc' := 542) h dL_law_540 rfl (by decide) rfl ?_
  exact loop 5 0 (by decide) (by decide) 0 (-1) ⟨rfl, by show wayI 0 = 78; decide⟩
