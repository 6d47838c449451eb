/-! THE LAW'S HOURS. -/
theorem rdI_N : rdI (.inr eN) = -30000 := by
  show (if eN = eI then (-25000 : Int32) else -30000) = -30000
  exact if_neg (by decide)
theorem rdI_v (v : Int32) : rdI (.inl (some (.int v))) = v := rfl
theorem nI_pr (n : Nat) : nI (n + 1) + -1 = nI n := by
  rw [← nI_1, Int32.add_assoc, show (1 : Int32) + -1 = 0 by decide, Int32.add_zero]
theorem hr_ok {x : Nat} (hx : x < 24) : isHour' (nI x) = true := by
  unfold isHour'
  rw [show (0 : Int32) = nI 0 from rfl, show (23 : Int32) = nI 23 from rfl]
  exact wIn_ok (Nat.zero_le _) (by omega) (by decide)
/-- the hour's price, its quantity, as the law reads them -/
theorem bd_yes {B : Nat} {F : FM} {M : Nat → Int32} (hM : okM B M) (hF : eqF F M) {x : Nat} (hx : x < 24) (e : isB' F x = true) : 0 < pN F x ∧ 0 < uN F x ∧ pN F x ≤ 50 ∧ uN F x ≤ 500 ∧ (if isHour' (nI x) then (if bidF F (nI x) then (.inl (some (.int (vAt 24 (fA F 7) (nI x)))) : RO) else .inr eN) else .inr eI) = .inl (some (.int (nI (pN F x)))) ∧ (if isHour' (nI x) then (if bidF F (nI x) then (.inl (some (.int (vAt 24 (fA F 8) (nI x)))) : RO) else .inr eN) else .inr eI) = .inl (some (.int (nI (uN F x)))) := by
  obtain ⟨h1, h2, h3, h4, h5, h6⟩ := bid_of hM hF hx
  rw [e] at h6
  have h7 : 0 < pN F x := of_decide_eq_true h6.symm
  have e2 : bidF F (nI x) = true := e
  refine ⟨h7, Nat.pos_of_ne_zero (fun z => by have := h3.mpr z; omega), h1, h2, ?_, ?_⟩
  · rw [if_pos (hr_ok hx), if_pos e2, h4]
  · rw [if_pos (hr_ok hx), if_pos e2, h5]
theorem bd_no {F : FM} {x : Nat} (hx : x < 24) (e : ¬ isB' F x = true) (k : Nat) : (if isHour' (nI x) then (if bidF F (nI x) then (.inl (some (.int (vAt 24 (fA F k) (nI x)))) : RO) else .inr eN) else .inr eI) = .inr eN := by
  rw [if_pos (hr_ok hx), if_neg (show ¬ bidF F (nI x) = true from e)]
theorem zHT_s {F : FM} {t m : Nat} (e4 : fI F 4 = nI t) (hs : t + m < 2 ^ 31) (k : Nat) : zHT F m (k + 1) = if isB' F ((t + m) % 24) then .inl (some (.int (nI m))) else zHT F (m + 1) k := by
  have e : fI F 4 + nI m - (fI F 4 + nI m) / 24 * 24 = nI ((t + m) % 24) := by
    rw [e4, nI_add, hr_nI hs]
  show (if bidF F (fI F 4 + nI m - (fI F 4 + nI m) / 24 * 24) then _ else _) = _
  rw [e]
  rfl
def nQ (F : FM) (t : Nat) : Nat → Nat := num (fun h => isB' F ((t + h) % 24))
theorem nQ_24 (F : FM) (t : Nat) : nQ F t 24 = nB F := num_rot (isB' F) t
theorem law_h {X : CX} {G : GX} {B n w sp q0 a b : Nat} {S : Nat → va_E} {D : DM} {Q : MM} {tt tot run srv : Int32} (h : OK X G 119 code RL 19 rmL) (hD : isD G 119 S D) (hR : Rel B 0 D Q) (hn : n = qN (mM Q)) (hw : w < 4) (hsp : sp < 31) (e1 : fI (dF D 0) 1 = qSgn (nI w)) (e2 : fI (dF D 0) 2 = nI sp) {best most k0 : Int32} {t : Nat} (e4 : fI (dF D 0) 4 = nI t) (ht : t < 2 ^ 30) (ha : a + 120 ≤ 811098) (hb : b + 720 ≤ 6651793)
    (kk : ∀ k1 : Int32, AW X G 19 119 766 (LM G q0 tt (nI n) (qSgn (nI w)) (nI sp) tot run srv (nI (nB (dF D 0))) (rdI (zHT (dF D 0) 0 24)) (best) (most) (k1)) [] S (a + 120) (b + 720)) : AW X G 19 119 662 (LM G q0 tt (nI n) (qSgn (nI w)) (nI sp) tot run srv (0) ((-30000)) (best) (most) (k0)) [] S a b := by
  have hM := hR.2.1.1
  have hF := hR.2.1.2
  have q24 := nQ_24 (dF D 0) t
  have b24 : nB (dF D 0) ≤ 24 := num_le _ _
  have loop : ∀ (m : Nat), m ≤ 24 → nQ (dF D 0) t m ≤ nB (dF D 0) → AW X G 19 119 666 (LM G q0 tt (nI n) (qSgn (nI w)) (nI sp) tot run srv (nI (nB (dF D 0) - nQ (dF D 0) t (m))) (rdI (zHT (dF D 0) (m) (24 - (m)))) (best) (most) (nI (m) + -1)) [] S (a + 5 * (24 - m)) (b + 30 * (24 - m)) := by
    intro m
    induction m with
    | zero =>
      intro h1 h2
      refine r_iload (pc' := 668) h dL_law_666 rfl rfl ?_
      refine r_if_lt (tgt := 766) (pc' := 671) h dL_law_668 (by decide) rfl (fun _ => ?_) (fun c => absurd (by decide) c)
      exact kk _
    | succ m ih =>
      intro h1 h2
      have hx : (t + m) % 24 < 24 := Nat.mod_lt _ (by decide)
      have hq : nQ (dF D 0) t (m + 1) = if isB' (dF D 0) ((t + m) % 24) then nQ (dF D 0) t m + 1 else nQ (dF D 0) t m := rfl
      have hz := zHT_s (F := dF D 0) e4 (show t + m < 2 ^ 31 by omega) (24 - (m + 1))
      rw [show 24 - (m + 1) + 1 = 24 - m by omega] at hz
      rw [nI_pr]
      refine r_widen (a' := a + 5 * (24 - (m + 1)) + 0) (b' := b + 30 * (24 - (m + 1)) + 0) (by omega) (by omega) ?_
      refine r_iload (pc' := 668) h dL_law_666 rfl rfl ?_
      refine r_if_lt (tgt := 766) (pc' := 671) h dL_law_668 (by decide) rfl (fun c => absurd c (nI_pos (by omega))) (fun _ => ?_)
      refine r_aload_n (pc' := 672) h dL_law_671 rfl rfl ?_
      refine r_callVL (st := []) (As := []) (M := mX4_time) (pc' := 675) h dL_law_672 rfl lL_254 vX4_time rfl hD.l0 hD.o0 rfl rfl (Nat.le_of_ble_eq_true rfl) ⟨by decide, by decide, by show a + 5 * (24 - (m + 1)) + 0 + 0 ≤ 811098; omega, by show b + 30 * (24 - (m + 1)) + 0 + 0 ≤ 6651793; omega⟩ (kX4_time hD ?_)
      rw [e4]
      refine K_int ?_
      refine r_iload (pc' := 677) h dL_law_675 rfl rfl ?_
      refine r_iadd (pc' := 678) h dL_law_677 rfl ?_
      rw [nI_add]
      refine r_bipush (pc' := 680) (v := 24) h dL_law_678 rfl (by decide) ?_
      refine r_irem (pc' := 681) h dL_law_680 rfl (by decide) ?_
      rw [hr_nI (by omega)]
      refine r_istore (pc' := 683) h dL_law_681 rfl (by decide) rfl ?_
      refine r_aload_n (pc' := 684) h dL_law_683 rfl rfl ?_
      refine r_iload (pc' := 686) h dL_law_684 rfl rfl ?_
      refine r_callVL (st := []) (As := [.int (nI ((t + m) % 24))]) (M := mX4_hasBid) (pc' := 689) h dL_law_686 rfl lL_257 vX4_hasBid rfl hD.l0 hD.o0 rfl rfl (Nat.le_of_ble_eq_true rfl) ⟨by decide, by decide, by show a + 5 * (24 - (m + 1)) + 0 + 1 ≤ 811098; omega, by show b + 30 * (24 - (m + 1)) + 0 + 6 ≤ 6651793; omega⟩ (kX4_hasBid hD ?_)
      rw [if_pos (hr_ok hx), show bidF (dF D 0) (nI ((t + m) % 24)) = isB' (dF D 0) ((t + m) % 24) from rfl]
      refine K_int ?_
      refine r_widen (a' := a + 5 * (24 - (m + 1)) + 1) (b' := b + 30 * (24 - (m + 1)) + 6) (by show a + 5 * (24 - (m + 1)) + 0 + 1 ≤ a + 5 * (24 - (m + 1)) + 1; omega) (by show b + 30 * (24 - (m + 1)) + 0 + 6 ≤ b + 30 * (24 - (m + 1)) + 6; omega) ?_
      refine r_istore (pc' := 691) h dL_law_689 rfl (by decide) rfl ?_
      refine r_iload (pc' := 693) h dL_law_691 rfl rfl ?_
      refine r_iload (pc' := 695) h dL_law_693 rfl rfl ?_
      refine r_tern (pc' := 703) (A := 1) (B := 0) h dL_law_695 dL_law_698 dL_law_699 dL_law_702 (by decide) (by decide) ⟨rfl, rfl, rfl, rfl⟩ ?_
      refine r_iadd (pc' := 704) h dL_law_703 rfl ?_
      refine r_istore (pc' := 706) h dL_law_704 rfl (by decide) rfl ?_
      by_cases e : isB' (dF D 0) ((t + m) % 24) = true
      · rw [if_pos e] at hq hz
        obtain ⟨y1, y2, y3, y4, y5, y6⟩ := bd_yes hM hF hx e
        rw [e]
        show AW X G 19 119 706 _ _ _ _ _
        refine r_iload (pc' := 708) h dL_law_706 rfl rfl ?_
        refine r_if_eq (tgt := 716) (pc' := 711) h dL_law_708 (by decide) rfl (fun c => absurd c (by decide)) (fun _ => ?_)
        refine r_iload (pc' := 713) h dL_law_711 rfl rfl ?_
        refine r_goto (tgt := 718) h dL_law_713 (by decide) ?_
        refine r_istore (pc' := 720) h dL_law_718 rfl (by decide) rfl ?_
        refine r_iload (pc' := 722) h dL_law_720 rfl rfl ?_
        refine r_aload_n (pc' := 723) h dL_law_722 rfl rfl ?_
        refine r_iload (pc' := 725) h dL_law_723 rfl rfl ?_
        refine r_callSL (st := [.int (b2i true)]) (As := [.ref (ad G 0), .int (nI ((t + m) % 24))]) (M := mL_bidPrice) (pc' := 728) h dL_law_725 rfl lL_260 wL_bidPrice rfl rfl (Nat.le_of_ble_eq_true rfl) ⟨by decide, by decide, by show a + 5 * (24 - (m + 1)) + 1 + 2 ≤ 811098; omega, by show b + 30 * (24 - (m + 1)) + 6 + 12 ≤ 6651793; omega⟩ (kL_bidPrice hD (zz := .inl (some (.int (nI (pN (dF D 0) ((t + m) % 24)))))) y5.symm (Or.inl ⟨_, rfl⟩) (K_int ?_))
        refine r_widen (a' := a + 5 * (24 - (m + 1)) + 3) (b' := b + 30 * (24 - (m + 1)) + 18) (by show a + 5 * (24 - (m + 1)) + 1 + 2 ≤ a + 5 * (24 - (m + 1)) + 3; omega) (by show b + 30 * (24 - (m + 1)) + 6 + 12 ≤ b + 30 * (24 - (m + 1)) + 18; omega) ?_
        rw [rdI_v]
        refine r_ternLe (pc' := 736) (A := 1) (B := 0) h dL_law_728 dL_law_731 dL_law_732 dL_law_735 (by decide) (by decide) ⟨rfl, rfl, rfl, rfl⟩ ?_
        rw [if_neg (nI_nle y1 (by omega))]
        refine r_icmp_ne (tgt := 758) (pc' := 739) h dL_law_736 (by decide) rfl (fun c => absurd c (by decide)) (fun _ => ?_)
        refine r_iload (pc' := 741) h dL_law_739 rfl rfl ?_
        refine r_aload_n (pc' := 742) h dL_law_741 rfl rfl ?_
        refine r_iload (pc' := 744) h dL_law_742 rfl rfl ?_
        refine r_callSL (st := [.int (b2i true)]) (As := [.ref (ad G 0), .int (nI ((t + m) % 24))]) (M := mL_bidQuantity) (pc' := 747) h dL_law_744 rfl lL_262 wL_bidQuantity rfl rfl (Nat.le_of_ble_eq_true rfl) ⟨by decide, by decide, by show a + 5 * (24 - (m + 1)) + 3 + 2 ≤ 811098; omega, by show b + 30 * (24 - (m + 1)) + 18 + 12 ≤ 6651793; omega⟩ (kL_bidQuantity hD (zz := .inl (some (.int (nI (uN (dF D 0) ((t + m) % 24)))))) y6.symm (Or.inl ⟨_, rfl⟩) (K_int ?_))
        refine r_widen (a' := a + 5 * (24 - (m + 1)) + 5) (b' := b + 30 * (24 - (m + 1)) + 30) (by show a + 5 * (24 - (m + 1)) + 3 + 2 ≤ a + 5 * (24 - (m + 1)) + 5; omega) (by show b + 30 * (24 - (m + 1)) + 18 + 12 ≤ b + 30 * (24 - (m + 1)) + 30; omega) ?_
        rw [rdI_v]
        refine r_ternLe (pc' := 755) (A := 1) (B := 0) h dL_law_747 dL_law_750 dL_law_751 dL_law_754 (by decide) (by decide) ⟨rfl, rfl, rfl, rfl⟩ ?_
        rw [if_neg (nI_nle y2 (by omega))]
        refine r_icmp_eq (tgt := 760) (pc' := 758) h dL_law_755 (by decide) rfl (fun _ => ?_) (fun c => absurd rfl c)
        refine r_iinc (pc' := 763) (v := -1) h dL_law_760 rfl (by decide) (by decide) rfl rfl ?_
        refine r_sub (lo' := LM G q0 tt (nI n) (qSgn (nI w)) (nI sp) tot run srv _ _ best most (nI m + -1)) [0, 1, 2, 3, 4, 5, 6, 7, 8, 9, 10, 11, 12, 13] rfl ?_
        refine r_goto (tgt := 666) h dL_law_763 (by decide) ?_
        have i2 := ih (by omega) (by omega)
        rw [hz, show nB (dF D 0) - nQ (dF D 0) t m = nB (dF D 0) - nQ (dF D 0) t (m + 1) + 1 by omega, ← nI_add] at i2
        exact r_widen (by omega) (by omega) i2
      · rw [if_neg e] at hq hz
        rw [Bool.eq_false_iff.mpr e, show nI (nB (dF D 0) - nQ (dF D 0) t (m + 1)) + (if false = true then (1 : Int32) else 0) = nI (nB (dF D 0) - nQ (dF D 0) t (m + 1)) from Int32.add_zero _]
        show AW X G 19 119 706 _ _ _ _ _
        refine r_iload (pc' := 708) h dL_law_706 rfl rfl ?_
        refine r_if_eq (tgt := 716) (pc' := 711) h dL_law_708 (by decide) rfl (fun _ => ?_) (fun c => absurd rfl c)
        refine r_iload (pc' := 718) h dL_law_716 rfl rfl ?_
        refine r_istore (pc' := 720) h dL_law_718 rfl (by decide) rfl ?_
        refine r_iload (pc' := 722) h dL_law_720 rfl rfl ?_
        refine r_aload_n (pc' := 723) h dL_law_722 rfl rfl ?_
        refine r_iload (pc' := 725) h dL_law_723 rfl rfl ?_
        refine r_callSL (st := [.int (b2i false)]) (As := [.ref (ad G 0), .int (nI ((t + m) % 24))]) (M := mL_bidPrice) (pc' := 728) h dL_law_725 rfl lL_260 wL_bidPrice rfl rfl (Nat.le_of_ble_eq_true rfl) ⟨by decide, by decide, by show a + 5 * (24 - (m + 1)) + 1 + 2 ≤ 811098; omega, by show b + 30 * (24 - (m + 1)) + 6 + 12 ≤ 6651793; omega⟩ (kL_bidPrice hD (zz := .inr eN) (bd_no hx e 7).symm (Or.inr (Or.inr rfl)) (K_int ?_))
        refine r_widen (a' := a + 5 * (24 - (m + 1)) + 3) (b' := b + 30 * (24 - (m + 1)) + 18) (by show a + 5 * (24 - (m + 1)) + 1 + 2 ≤ a + 5 * (24 - (m + 1)) + 3; omega) (by show b + 30 * (24 - (m + 1)) + 6 + 12 ≤ b + 30 * (24 - (m + 1)) + 18; omega) ?_
        rw [rdI_N]
        refine r_ternLe (pc' := 736) (A := 1) (B := 0) h dL_law_728 dL_law_731 dL_law_732 dL_law_735 (by decide) (by decide) ⟨rfl, rfl, rfl, rfl⟩ ?_
        rw [show (if (-30000 : Int32) ≤ 0 then (0 : Int32) else 1) = 0 from rfl]
        refine r_icmp_ne (tgt := 758) (pc' := 739) h dL_law_736 (by decide) rfl (fun c => absurd c (by decide)) (fun _ => ?_)
        refine r_iload (pc' := 741) h dL_law_739 rfl rfl ?_
        refine r_aload_n (pc' := 742) h dL_law_741 rfl rfl ?_
        refine r_iload (pc' := 744) h dL_law_742 rfl rfl ?_
        refine r_callSL (st := [.int (b2i false)]) (As := [.ref (ad G 0), .int (nI ((t + m) % 24))]) (M := mL_bidQuantity) (pc' := 747) h dL_law_744 rfl lL_262 wL_bidQuantity rfl rfl (Nat.le_of_ble_eq_true rfl) ⟨by decide, by decide, by show a + 5 * (24 - (m + 1)) + 3 + 2 ≤ 811098; omega, by show b + 30 * (24 - (m + 1)) + 18 + 12 ≤ 6651793; omega⟩ (kL_bidQuantity hD (zz := .inr eN) (bd_no hx e 8).symm (Or.inr (Or.inr rfl)) (K_int ?_))
        refine r_widen (a' := a + 5 * (24 - (m + 1)) + 5) (b' := b + 30 * (24 - (m + 1)) + 30) (by show a + 5 * (24 - (m + 1)) + 3 + 2 ≤ a + 5 * (24 - (m + 1)) + 5; omega) (by show b + 30 * (24 - (m + 1)) + 18 + 12 ≤ b + 30 * (24 - (m + 1)) + 30; omega) ?_
        rw [rdI_N]
        refine r_ternLe (pc' := 755) (A := 1) (B := 0) h dL_law_747 dL_law_750 dL_law_751 dL_law_754 (by decide) (by decide) ⟨rfl, rfl, rfl, rfl⟩ ?_
        rw [show (if (-30000 : Int32) ≤ 0 then (0 : Int32) else 1) = 0 from rfl]
        refine r_icmp_eq (tgt := 760) (pc' := 758) h dL_law_755 (by decide) rfl (fun _ => ?_) (fun c => absurd rfl c)
        refine r_iinc (pc' := 763) (v := -1) h dL_law_760 rfl (by decide) (by decide) rfl rfl ?_
        refine r_sub (lo' := LM G q0 tt (nI n) (qSgn (nI w)) (nI sp) tot run srv _ _ best most (nI m + -1)) [0, 1, 2, 3, 4, 5, 6, 7, 8, 9, 10, 11, 12, 13] rfl ?_
        refine r_goto (tgt := 666) h dL_law_763 (by decide) ?_
        have i2 := ih (by omega) (by omega)
        rw [hz, ← hq] at i2
        exact r_widen (by omega) (by omega) i2
  refine r_bipush (pc' := 664) (v := 23) h dL_law_662 rfl (by decide) ?_
  refine r_istore (pc' := 666) h dL_law_664 rfl (by decide) rfl ?_
  have l24 := loop 24 (Nat.le_refl _) (by omega)
  rw [q24, Nat.sub_self] at l24
  exact l24
