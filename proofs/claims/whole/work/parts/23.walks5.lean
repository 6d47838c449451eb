/-! THE WALKS: the reference's changes. -/
theorem kX5_set {l : Launch} {G : GX} {N : Nat} {S : Nat → va_E} {K : RK} {Q : MM} (hQ : isM G N S Q) {t w v : Int32} (hin : vp_in (57 + 6 * t + w) 1548) (hk : ∀ S1, isM G N S1 (sMM Q (qSet (mM Q) t w v)) → GR S S1 → K (.inl none) S1) : RetK l G N mX5_set (0, 0, 0, 0) [.ref (ad G 119), .int t, .int w, .int v] S K := by
  refine ret_enter (by decide +kernel) (Nat.le_of_ble_eq_true rfl) (fun X hX h hm => ?_)
  subst hX
  replace h : OK X G N cX5_set RX5 4 (0, 0, 0, 0) := h
  replace hm : OKm X G N K none (0, 0, 0, 0) := hm
  show AW X G 4 N 0 [(0, _), (1, _), (2, _), (3, _)] [] S 0 0
  refine r_aload_n (pc' := 1) h dX5_set_0 rfl rfl ?_
  refine gX5_9 (pc' := 4) h dX5_set_1 rfl hQ.l0 hQ.o rfl ?_
  refine r_bipush (pc' := 6) (v := 57) h dX5_set_4 rfl (by decide) ?_
  refine r_bipush (pc' := 8) (v := 6) h dX5_set_6 rfl (by decide) ?_
  refine r_iload_n (pc' := 9) h dX5_set_8 rfl rfl ?_
  refine r_imul (pc' := 10) h dX5_set_9 rfl ?_
  refine r_iadd (pc' := 11) h dX5_set_10 rfl ?_
  refine r_iload_n (pc' := 12) h dX5_set_11 rfl rfl ?_
  refine r_iadd (pc' := 13) h dX5_set_12 rfl ?_
  refine r_iload_n (pc' := 14) h dX5_set_13 rfl rfl ?_
  refine r_iast (pc' := 15) h dX5_set_14 rfl hQ.l1 hQ.r1 hin ?_
  refine wU0 hQ (fun S1 hQ1 hR1 => ?_)
  refine r_return h hm dX5_set_15 (Nat.le_of_ble_eq_true rfl) (Nat.le_of_ble_eq_true rfl) ?_
  exact hk _ hQ1 hR1
theorem kX5_isFine {l : Launch} {G : GX} {N : Nat} {S : Nat → va_E} {K : RK} {Q : MM} (hQ : isM G N S Q) {b : Bool} (hk : ∀ S1, isM G N S1 (sMI Q 0 (if b then 0 else 1)) → GR S S1 → K (.inl (some (.int (b2i b)))) S1) : RetK l G N mX5_isFine (0, 0, 0, 0) [.ref (ad G 119), .int (b2i b)] S K := by
  refine ret_enter (by decide +kernel) (Nat.le_of_ble_eq_true rfl) (fun X hX h hm => ?_)
  subst hX
  replace h : OK X G N cX5_isFine RX5 2 (0, 0, 0, 0) := h
  replace hm : OKm X G N K (some .boolean) (0, 0, 0, 0) := hm
  show AW X G 2 N 0 [(0, _), (1, _)] [] S 0 0
  refine r_aload_n (pc' := 1) h dX5_isFine_0 rfl rfl ?_
  refine r_iload_n (pc' := 2) h dX5_isFine_1 rfl rfl ?_
  refine r_if_eqb (tgt := 9) (pc' := 5) h dX5_isFine_2 (by decide) rfl (fun c0 => ?_) (fun c0 => ?_)
  · refine r_iconst (pc' := 10) (v := 1) h dX5_isFine_9 rfl (by decide) ?_
    refine pX5_27 (pc' := 13) h dX5_isFine_10 rfl hQ.l0 hQ.o (Nat.le_of_ble_eq_true rfl) ?_
    refine wM0 hQ (fun S1 hQ1 hR1 => ?_)
    refine r_iload_n (pc' := 14) h dX5_isFine_13 rfl rfl ?_
    refine r_zreturn h hm dX5_isFine_14 (Nat.le_of_ble_eq_true rfl) (Nat.le_of_ble_eq_true rfl) (by first | rfl | exact nar_b _) ?_
    exact hk _ (by simpa [c0] using hQ1) hR1
  · refine r_iconst (pc' := 6) (v := 0) h dX5_isFine_5 rfl (by decide) ?_
    refine r_goto (tgt := 10) h dX5_isFine_6 (by decide) ?_
    refine pX5_27 (pc' := 13) h dX5_isFine_10 rfl hQ.l0 hQ.o (Nat.le_of_ble_eq_true rfl) ?_
    refine wM0 hQ (fun S2 hQ2 hR2 => ?_)
    refine r_iload_n (pc' := 14) h dX5_isFine_13 rfl rfl ?_
    refine r_zreturn h hm dX5_isFine_14 (Nat.le_of_ble_eq_true rfl) (Nat.le_of_ble_eq_true rfl) (by first | rfl | exact nar_b _) ?_
    exact hk _ (by simpa [c0] using hQ2) hR2
theorem kX5_rejects1 {l : Launch} {G : GX} {N : Nat} {S : Nat → va_E} {K : RK} {Q : MM} (hQ : isM G N S Q) {x y : Int32} (hk : ∀ S1, isM G N S1 (qRej Q x y) → GR S S1 → K (.inl (some (.int (1)))) S1) : RetK l G N mX5_rejects (0, 0, 0, 0) [.ref (ad G 119), .int 1, .int x, .int y] S K := by
  refine ret_enter (by decide +kernel) (Nat.le_of_ble_eq_true rfl) (fun X hX h hm => ?_)
  subst hX
  replace h : OK X G N cX5_rejects RX5 4 (0, 0, 0, 0) := h
  replace hm : OKm X G N K (some .boolean) (0, 0, 0, 0) := hm
  show AW X G 4 N 0 [(0, _), (1, _), (2, _), (3, _)] [] S 0 0
  refine r_iload_n (pc' := 1) h dX5_rejects_0 rfl rfl ?_
  refine r_if_eq (tgt := 19) (pc' := 4) h dX5_rejects_1 (by decide) rfl (fun c => absurd c (by decide)) (fun _ => ?_)
  refine r_aload_n (pc' := 5) h dX5_rejects_4 rfl rfl ?_
  refine r_iload_n (pc' := 6) h dX5_rejects_5 rfl rfl ?_
  refine pX5_40 (pc' := 9) h dX5_rejects_6 rfl hQ.l0 hQ.o (Nat.le_of_ble_eq_true rfl) ?_
  refine wM5 hQ (fun S1 hQ1 hR1 => ?_)
  refine r_aload_n (pc' := 10) h dX5_rejects_9 rfl rfl ?_
  refine r_iload_n (pc' := 11) h dX5_rejects_10 rfl rfl ?_
  refine pX5_43 (pc' := 14) h dX5_rejects_11 rfl hQ1.l0 hQ1.o (Nat.le_of_ble_eq_true rfl) ?_
  refine wM6 hQ1 (fun S2 hQ2 hR2 => ?_)
  refine r_aload_n (pc' := 15) h dX5_rejects_14 rfl rfl ?_
  refine r_iconst (pc' := 16) (v := 0) h dX5_rejects_15 rfl (by decide) ?_
  refine pX5_46 (pc' := 19) h dX5_rejects_16 rfl hQ2.l0 hQ2.o (Nat.le_of_ble_eq_true rfl) ?_
  refine wM7 hQ2 (fun S3 hQ3 hR3 => ?_)
  refine r_iload_n (pc' := 20) h dX5_rejects_19 rfl rfl ?_
  refine r_zreturn h hm dX5_rejects_20 (Nat.le_of_ble_eq_true rfl) (Nat.le_of_ble_eq_true rfl) (by first | rfl | exact nar_b _) ?_
  exact kI (hk _ hQ3 (((hR1).trans hR2).trans hR3)) (by first | rfl | contradiction | simp [mM_sI, mI_sI, mI_sM, mM_sM])
theorem kX5_rejects0 {l : Launch} {G : GX} {N : Nat} {S : Nat → va_E} {K : RK} {Q : MM} (hQ : isM G N S Q) {x y : Int32} (hk : K (.inl (some (.int (0)))) S) : RetK l G N mX5_rejects (0, 0, 0, 0) [.ref (ad G 119), .int 0, .int x, .int y] S K := by
  refine ret_enter (by decide +kernel) (Nat.le_of_ble_eq_true rfl) (fun X hX h hm => ?_)
  subst hX
  replace h : OK X G N cX5_rejects RX5 4 (0, 0, 0, 0) := h
  replace hm : OKm X G N K (some .boolean) (0, 0, 0, 0) := hm
  show AW X G 4 N 0 [(0, _), (1, _), (2, _), (3, _)] [] S 0 0
  refine r_iload_n (pc' := 1) h dX5_rejects_0 rfl rfl ?_
  refine r_if_eq (tgt := 19) (pc' := 4) h dX5_rejects_1 (by decide) rfl (fun _ => ?_) (fun c => absurd c (by decide))
  refine r_iload_n (pc' := 20) h dX5_rejects_19 rfl rfl ?_
  refine r_zreturn h hm dX5_rejects_20 (Nat.le_of_ble_eq_true rfl) (Nat.le_of_ble_eq_true rfl) (by first | rfl | exact nar_b _) ?_
  exact hk
theorem kX5_copies {l : Launch} {G : GX} {N : Nat} {S : Nat → va_E} {K : RK} {Q : MM} (hQ : isM G N S Q) {f t : Nat} (hf : f < 12) (ht : t < 12) (hne : f ≠ t) (hk : ∀ S1, isM G N S1 (sMM Q (cpM (mM Q) f t)) → GR S S1 → K (.inl none) S1) : RetK l G N mX5_copies (0, 0, 0, 0) [.ref (ad G 119), .int (nI f), .int (nI t)] S K := by
  refine ret_enter (by decide +kernel) (Nat.le_of_ble_eq_true rfl) (fun X hX h hm => ?_)
  subst hX
  replace h : OK X G N cX5_copies RX5 4 (0, 0, 0, 0) := h
  replace hm : OKm X G N K none (0, 0, 0, 0) := hm
  show AW X G 4 N 0 [(0, _), (1, _), (2, _)] [] S 0 0
  refine r_iconst (pc' := 1) (v := 0) h dX5_copies_0 rfl (by decide) ?_
  refine r_istoren (j := 3) (pc' := 2) h rfl dX5_copies_1 rfl (by decide) rfl ?_
  have loop : ∀ (n j : Nat), j ≤ 129 → 129 - j < n → ∀ Sj, isM G N Sj (sMM Q (cpJ (mM Q) f t j)) → GR S Sj → AW X G 4 N 2 [(0, .ref (ad G 119)), (1, .int (nI f)), (2, .int (nI t)), (3, .int (nI j))] [] Sj 0 0 := by
    intro n
    induction n with
    | zero => intro j h1 h2; exact absurd h2 (by omega)
    | succ n ih =>
      intro j h1 h2 Sj hj1 hr1
      refine r_iload_n (pc' := 3) h dX5_copies_2 rfl rfl ?_
      refine r_sipush (pc' := 6) (v := 129) h dX5_copies_3 rfl (by decide) ?_
      refine r_icmp_ge (tgt := 39) (pc' := 9) h dX5_copies_6 (by decide) rfl (fun c0 => ?_) (fun c0 => ?_)
      · have ej := lp_ge (c := 129) (rfl : (129 : Int32) = nI 129) (by decide) h1 c0
        subst ej
        refine r_return h hm dX5_copies_39 (Nat.le_of_ble_eq_true rfl) (Nat.le_of_ble_eq_true rfl) ?_
        exact hk _ hj1 hr1
      · have hj := lp_lt (c := 129) (rfl : (129 : Int32) = nI 129) (by decide) h1 c0
        have hx1 : 129 * nI f + nI j = nI (129 * f + j) := by rw [show (129 : Int32) = nI 129 from rfl, pk_mul, nI_add]
        have hx2 : 129 * nI t + nI j = nI (129 * t + j) := by rw [show (129 : Int32) = nI 129 from rfl, pk_mul, nI_add]
        have hi1 : (129 * nI f + nI j).toNatClampNeg = 129 * f + j := by rw [hx1]; exact nI_clamp (by omega)
        have hi2 : (129 * nI t + nI j).toNatClampNeg = 129 * t + j := by rw [hx2]; exact nI_clamp (by omega)
        refine r_aload_n (pc' := 10) h dX5_copies_9 rfl rfl ?_
        refine gX5_9 (pc' := 13) h dX5_copies_10 rfl hj1.l0 hj1.o rfl ?_
        refine r_sipush (pc' := 16) (v := 129) h dX5_copies_13 rfl (by decide) ?_
        refine r_iload_n (pc' := 17) h dX5_copies_16 rfl rfl ?_
        refine r_imul (pc' := 18) h dX5_copies_17 rfl ?_
        refine r_iload_n (pc' := 19) h dX5_copies_18 rfl rfl ?_
        refine r_iadd (pc' := 20) h dX5_copies_19 rfl ?_
        refine r_aload_n (pc' := 21) h dX5_copies_20 rfl rfl ?_
        refine gX5_9 (pc' := 24) h dX5_copies_21 rfl hj1.l0 hj1.o rfl ?_
        refine r_sipush (pc' := 27) (v := 129) h dX5_copies_24 rfl (by decide) ?_
        refine r_iload_n (pc' := 28) h dX5_copies_27 rfl rfl ?_
        refine r_imul (pc' := 29) h dX5_copies_28 rfl ?_
        refine r_iload_n (pc' := 30) h dX5_copies_29 rfl rfl ?_
        refine r_iadd (pc' := 31) h dX5_copies_30 rfl ?_
        refine r_iald (pc' := 32) h dX5_copies_31 rfl hj1.l1 hj1.r1 (by rw [hx1]; exact vp_in_nI (by omega) (by decide)) ?_
        refine r_iast (pc' := 33) h dX5_copies_32 rfl hj1.l1 hj1.r1 (by rw [hx2]; exact vp_in_nI (by omega) (by decide)) ?_
        refine wU0 hj1 (fun S1 hQ1 hR1 => ?_)
        refine r_iinc (pc' := 36) (v := 1) h dX5_copies_33 rfl (by decide) (by decide) rfl rfl ?_
        refine r_goto (tgt := 2) h dX5_copies_36 (by decide) ?_
        have hz : isM G N S1 (sMM Q (cpJ (mM Q) f t (j + 1))) := by have e9 := hQ1; rw [hi1, hi2, mM_sM, cpJ_s _ hne hj] at e9; exact e9
        exact aw_cast (by simp [nI_1]) (ih (j + 1) (by omega) (by omega) _ hz ((hr1).trans hR1))
  exact loop 130 0 (Nat.zero_le _) (by omega) _ (by rw [cpJ_0]; exact hQ) GR.rfl'
theorem kX5_begins {l : Launch} {G : GX} {N : Nat} {S : Nat → va_E} {K : RK} {Q : MM} (hQ : isM G N S Q) (hk : ∀ S1, isM G N S1 (sMM Q (cpM (mM Q) 0 10)) → GR S S1 → K (.inl none) S1) : RetK l G N mX5_begins (1, 23, 0, 0) [.ref (ad G 119)] S K := by
  refine ret_enter (by decide +kernel) (Nat.le_of_ble_eq_true rfl) (fun X hX h hm => ?_)
  subst hX
  replace h : OK X G N cX5_begins RX5 1 (1, 23, 0, 0) := h
  replace hm : OKm X G N K none (1, 23, 0, 0) := hm
  show AW X G 1 N 0 [(0, _)] [] S 0 0
  refine r_aload_n (pc' := 1) h dX5_begins_0 rfl rfl ?_
  refine r_iconst (pc' := 2) (v := 0) h dX5_begins_1 rfl (by decide) ?_
  refine r_bipush (pc' := 4) (v := 10) h dX5_begins_2 rfl (by decide) ?_
  refine r_callV2 (pc' := 7) (M := mX5_copies) h hm dX5_begins_4 rfl lX5_30 vX5_copies rfl hQ.l0 hQ.o (Nat.le_of_ble_eq_true rfl) (rrb rfl) (kX5_copies (f := 0) (t := 10) hQ (by decide) (by decide) (by decide) (fun S1 hQ1 hR1 => ?_))
  show AW X G _ _ _ _ _ _ _ _
  refine r_return h hm dX5_begins_7 (Nat.le_of_ble_eq_true rfl) (Nat.le_of_ble_eq_true rfl) ?_
  exact hk _ hQ1 hR1
theorem kX5_copiesX {l : Launch} {G : GX} {N : Nat} {S : Nat → va_E} {K : RK} {Q : MM} (hQ : isM G N S Q) {f t : Nat} {x y : Int32} (hx : x = nI f) (hy : y = nI t) (hf : f < 12) (ht : t < 12) (hne : f ≠ t) (hk : ∀ S1, isM G N S1 (sMM Q (cpM (mM Q) f t)) → GR S S1 → K (.inl none) S1) : RetK l G N mX5_copies (0, 0, 0, 0) [.ref (ad G 119), .int x, .int y] S K := by
  subst hx
  subst hy
  exact kX5_copies hQ hf ht hne hk
theorem kX5_ends {l : Launch} {G : GX} {N : Nat} {S : Nat → va_E} {K : RK} {Q : MM} (hQ : isM G N S Q) {b x y z : Int32} (hc : mI Q 2 = nI (mI Q 2).toNatClampNeg ∧ (mI Q 2).toNatClampNeg ≤ 8) (hk : ∀ S1, isM G N S1 (qEnd Q b x y z).1 → GR S S1 → K (.inl (some (.int (qEnd Q b x y z).2))) S1) : RetK l G N mX5_ends (1, 23, 0, 0) [.ref (ad G 119), .int b, .int x, .int y, .int z] S K := by
  refine ret_enter (by decide +kernel) (Nat.le_of_ble_eq_true rfl) (fun X hX h hm => ?_)
  subst hX
  replace h : OK X G N cX5_ends RX5 6 (1, 23, 0, 0) := h
  replace hm : OKm X G N K (some .int) (1, 23, 0, 0) := hm
  show AW X G 6 N 0 [(0, _), (1, _), (2, _), (3, _), (4, _)] [] S 0 0
  refine r_aload_n (pc' := 1) h dX5_ends_0 rfl rfl ?_
  refine r_iload_n (pc' := 2) h dX5_ends_1 rfl rfl ?_
  refine r_iconst (pc' := 3) (v := 1) h dX5_ends_2 rfl (by decide) ?_
  refine r_icmp_ne (tgt := 10) (pc' := 6) h dX5_ends_3 (by decide) rfl (fun c0 => ?_) (fun c0 => ?_)
  · refine r_iload_n (pc' := 11) h dX5_ends_10 rfl rfl ?_
    refine r_iconst (pc' := 12) (v := 2) h dX5_ends_11 rfl (by decide) ?_
    refine r_icmp_ne (tgt := 19) (pc' := 15) h dX5_ends_12 (by decide) rfl (fun c1 => ?_) (fun c1 => ?_)
    · refine r_iload_n (pc' := 20) h dX5_ends_19 rfl rfl ?_
      refine r_iconst (pc' := 21) (v := 3) h dX5_ends_20 rfl (by decide) ?_
      refine r_icmp_ne (tgt := 29) (pc' := 24) h dX5_ends_21 (by decide) rfl (fun c2 => ?_) (fun c2 => ?_)
      · refine r_iconst (pc' := 30) (v := 0) h dX5_ends_29 rfl (by decide) ?_
        refine pX5_27 (pc' := 33) h dX5_ends_30 rfl hQ.l0 hQ.o (Nat.le_of_ble_eq_true rfl) ?_
        refine wM0 hQ (fun S1 hQ1 hR1 => ?_)
        refine r_aload_n (pc' := 34) h dX5_ends_33 rfl rfl ?_
        refine gX5_27 (pc' := 37) h dX5_ends_34 rfl hQ1.l0 hQ1.o rfl ?_
        refine r_if_eq (tgt := 49) (pc' := 40) h dX5_ends_37 (by decide) rfl (fun c3 => ?_) (fun c3 => ?_)
        · have hth : thr b x y z = 0 := by have e9 := c3; simp only [mI_sI, mI_sM] at e9; simp at e9; simp [thr, c0, c1, c2, e9]
          have hQ1 : isM G N S1 (sMI Q 0 0) := (congrArg (fun q => isM G N S1 (sMI Q 0 q)) c3).mp hQ1
          refine r_aload_n (pc' := 50) h dX5_ends_49 rfl rfl ?_
          refine gX5_34 (pc' := 53) h dX5_ends_50 rfl hQ1.l0 hQ1.o rfl ?_
          refine r_bipush (pc' := 55) (v := 8) h dX5_ends_53 rfl (by decide) ?_
          refine r_icmp_ne (tgt := 94) (pc' := 58) h dX5_ends_55 (by decide) rfl (fun c4 => ?_) (fun c4 => ?_)
          · have h8 := c4
            have h9 : (mI Q 2).toNatClampNeg < 8 := by have e9 := hc.2; rcases Nat.lt_or_ge (mI Q 2).toNatClampNeg 8 with q | q; exact q; exact absurd (show mI Q 2 = 8 by rw [hc.1, show (mI Q 2).toNatClampNeg = 8 by omega]; rfl) h8
            refine r_aload_n (pc' := 95) h dX5_ends_94 rfl rfl ?_
            refine r_dup (pc' := 96) h dX5_ends_95 rfl rfl ?_
            refine gX5_34 (pc' := 99) h dX5_ends_96 rfl hQ1.l0 hQ1.o rfl ?_
            refine r_iconst (pc' := 100) (v := 1) h dX5_ends_99 rfl (by decide) ?_
            refine r_iadd (pc' := 101) h dX5_ends_100 rfl ?_
            refine pX5_34 (pc' := 104) h dX5_ends_101 rfl hQ1.l0 hQ1.o (Nat.le_of_ble_eq_true rfl) ?_
            refine wM2 hQ1 (fun S2 hQ2 hR2 => ?_)
            refine r_aload_n (pc' := 105) h dX5_ends_104 rfl rfl ?_
            refine r_bipush (pc' := 107) (v := 10) h dX5_ends_105 rfl (by decide) ?_
            refine r_aload_n (pc' := 108) h dX5_ends_107 rfl rfl ?_
            refine gX5_34 (pc' := 111) h dX5_ends_108 rfl hQ2.l0 hQ2.o rfl ?_
            refine r_callV2 (pc' := 114) (M := mX5_copies) h hm dX5_ends_111 rfl lX5_30 vX5_copies rfl hQ2.l0 hQ2.o (Nat.le_of_ble_eq_true rfl) (rrb rfl) (kX5_copiesX (f := 10) (t := (mI Q 2).toNatClampNeg + 1) hQ2 rfl (by simp only [mI_sI, mI_sM]; simp; rw [← nI_1, ← hc.1]) (by decide) (by omega) (by omega) (fun S3 hQ3 hR3 => ?_))
            show AW X G _ _ _ _ _ _ _ _
            refine r_aload_n (pc' := 115) h dX5_ends_114 rfl rfl ?_
            refine gX5_37 (pc' := 118) h dX5_ends_115 rfl hQ3.l0 hQ3.o rfl ?_
            refine r_ireturn h hm dX5_ends_118 (Nat.le_of_ble_eq_true rfl) (Nat.le_of_ble_eq_true rfl) ?_
            refine kM hk hQ3 (((hR1).trans hR2).trans hR3) ?_
            rw [qEnd, if_pos hth]
            have h8b : ¬ mI Q 2 = 8 := h8
            have e10 : (mI Q 2 + 1).toNatClampNeg = (mI Q 2).toNatClampNeg + 1 := by rw [hc.1, nI_1, nI_clamp (by have := hc.2; omega), nI_clamp (by have := hc.2; omega)]
            rw [if_neg h8b, e10]; rfl
          · have h8 := c4
            refine r_iconst (pc' := 59) (v := 1) h dX5_ends_58 rfl (by decide) ?_
            refine r_istore (pc' := 61) h dX5_ends_59 rfl (by decide) rfl ?_
            have loop : ∀ (n j : Nat), j ≤ 7 → 7 - j < n → ∀ Sj, isM G N Sj (sMM (sMI Q 0 0) (shf (mM Q) j)) → GR S Sj → AW X G 6 N 61 [(0, .ref (ad G 119)), (1, .int b), (2, .int x), (3, .int y), (4, .int z), (5, .int (nI (j + 1)))] [] Sj 0 0 := by
              intro n
              induction n with
              | zero => intro j h1 h2; exact absurd h2 (by omega)
              | succ n ih =>
                intro j h1 h2 Sj hj1 hr1
                refine r_iload (pc' := 63) h dX5_ends_61 rfl rfl ?_
                refine r_bipush (pc' := 65) (v := 8) h dX5_ends_63 rfl (by decide) ?_
                refine r_icmp_ge (tgt := 84) (pc' := 68) h dX5_ends_65 (by decide) rfl (fun c5 => ?_) (fun c5 => ?_)
                · have ej : j = 7 := by rcases Nat.lt_or_ge j 7 with q | q; exact absurd c5 (nI_ge (a := j + 1) (b := 8) (by omega) (by decide)); omega
                  subst ej
                  refine r_aload_n (pc' := 85) h dX5_ends_84 rfl rfl ?_
                  refine r_dup (pc' := 86) h dX5_ends_85 rfl rfl ?_
                  refine gX5_34 (pc' := 89) h dX5_ends_86 rfl hj1.l0 hj1.o rfl ?_
                  refine r_iconst (pc' := 90) (v := 1) h dX5_ends_89 rfl (by decide) ?_
                  refine r_isub (pc' := 91) h dX5_ends_90 rfl ?_
                  refine pX5_34 (pc' := 94) h dX5_ends_91 rfl hj1.l0 hj1.o (Nat.le_of_ble_eq_true rfl) ?_
                  refine wM2 hj1 (fun S4 hQ4 hR4 => ?_)
                  refine r_aload_n (pc' := 95) h dX5_ends_94 rfl rfl ?_
                  refine r_dup (pc' := 96) h dX5_ends_95 rfl rfl ?_
                  refine gX5_34 (pc' := 99) h dX5_ends_96 rfl hQ4.l0 hQ4.o rfl ?_
                  refine r_iconst (pc' := 100) (v := 1) h dX5_ends_99 rfl (by decide) ?_
                  refine r_iadd (pc' := 101) h dX5_ends_100 rfl ?_
                  refine pX5_34 (pc' := 104) h dX5_ends_101 rfl hQ4.l0 hQ4.o (Nat.le_of_ble_eq_true rfl) ?_
                  refine wM2 hQ4 (fun S5 hQ5 hR5 => ?_)
                  refine r_aload_n (pc' := 105) h dX5_ends_104 rfl rfl ?_
                  refine r_bipush (pc' := 107) (v := 10) h dX5_ends_105 rfl (by decide) ?_
                  refine r_aload_n (pc' := 108) h dX5_ends_107 rfl rfl ?_
                  refine gX5_34 (pc' := 111) h dX5_ends_108 rfl hQ5.l0 hQ5.o rfl ?_
                  refine r_callV2 (pc' := 114) (M := mX5_copies) h hm dX5_ends_111 rfl lX5_30 vX5_copies rfl hQ5.l0 hQ5.o (Nat.le_of_ble_eq_true rfl) (rrb rfl) (kX5_copiesX (f := 10) (t := 8) hQ5 rfl (by have e8 := h8; simp only [mI_sI, mI_sM] at e8 ⊢; simp at e8 ⊢; rw [e8]; decide) (by decide) (by decide) (by decide) (fun S6 hQ6 hR6 => ?_))
                  show AW X G _ _ _ _ _ _ _ _
                  refine r_aload_n (pc' := 115) h dX5_ends_114 rfl rfl ?_
                  refine gX5_37 (pc' := 118) h dX5_ends_115 rfl hQ6.l0 hQ6.o rfl ?_
                  refine r_ireturn h hm dX5_ends_118 (Nat.le_of_ble_eq_true rfl) (Nat.le_of_ble_eq_true rfl) ?_
                  refine kM hk hQ6 ((((hr1).trans hR4).trans hR5).trans hR6) ?_
                  rw [qEnd, if_pos hth]
                  have h8b : mI Q 2 = 8 := h8
                  simp [mM_sI, mI_sI, mI_sM, mM_sM, h8b]
                · have hj : j < 7 := by rcases Nat.lt_or_ge j 7 with q | q; exact q; exact absurd (nI_le (a := 8) (b := j + 1) (by omega) (by omega)) c5
                  refine r_aload_n (pc' := 69) h dX5_ends_68 rfl rfl ?_
                  refine r_iload (pc' := 71) h dX5_ends_69 rfl rfl ?_
                  refine r_iconst (pc' := 72) (v := 1) h dX5_ends_71 rfl (by decide) ?_
                  refine r_iadd (pc' := 73) h dX5_ends_72 rfl ?_
                  refine r_iload (pc' := 75) h dX5_ends_73 rfl rfl ?_
                  refine r_callV2 (pc' := 78) (M := mX5_copies) h hm dX5_ends_75 rfl lX5_30 vX5_copies rfl hj1.l0 hj1.o (Nat.le_of_ble_eq_true rfl) (rrb rfl) (kX5_copiesX (f := j + 2) (t := j + 1) hj1 (by rw [nI_1]) rfl (by omega) (by omega) (by omega) (fun S7 hQ7 hR7 => ?_))
                  show AW X G _ _ _ _ _ _ _ _
                  refine r_iinc (pc' := 81) (v := 1) h dX5_ends_78 rfl (by decide) (by decide) rfl rfl ?_
                  refine r_goto (tgt := 61) h dX5_ends_81 (by decide) ?_
                  have hz : isM G N S7 (sMM (sMI Q 0 0) (shf (mM Q) (j + 1))) := hQ7
                  exact aw_cast (by simp [nI_1]) (ih (j + 1) (by omega) (by omega) _ hz ((hr1).trans hR7))
            exact loop 8 0 (Nat.zero_le _) (by omega) _ hQ1 hR1
        · refine r_aload_n (pc' := 41) h dX5_ends_40 rfl rfl ?_
          refine r_bipush (pc' := 43) (v := 10) h dX5_ends_41 rfl (by decide) ?_
          refine r_iconst (pc' := 44) (v := 0) h dX5_ends_43 rfl (by decide) ?_
          refine r_callV2 (pc' := 47) (M := mX5_copies) h hm dX5_ends_44 rfl lX5_30 vX5_copies rfl hQ1.l0 hQ1.o (Nat.le_of_ble_eq_true rfl) (rrb rfl) (kX5_copiesX (f := 10) (t := 0) hQ1 rfl rfl (by decide) (by decide) (by decide) (fun S8 hQ8 hR8 => ?_))
          show AW X G _ _ _ _ _ _ _ _
          refine r_iconst (pc' := 48) (v := 0) h dX5_ends_47 rfl (by decide) ?_
          refine r_ireturn h hm dX5_ends_48 (Nat.le_of_ble_eq_true rfl) (Nat.le_of_ble_eq_true rfl) ?_
          have hth : ¬ thr b x y z = 0 := by have e9 := c3; simp only [mI_sI, mI_sM] at e9; first | (simp at e9; done) | (simp at e9; simpa [thr, c0, c1, c2] using e9)
          refine kM hk hQ8 ((hR1).trans hR8) ?_
          rw [qEnd, if_neg hth]
          simp [thr, mM_sI, mI_sI, mI_sM, mM_sM, c0, c1, c2]
      · refine r_iload (pc' := 26) h dX5_ends_24 rfl rfl ?_
        refine r_goto (tgt := 30) h dX5_ends_26 (by decide) ?_
        refine pX5_27 (pc' := 33) h dX5_ends_30 rfl hQ.l0 hQ.o (Nat.le_of_ble_eq_true rfl) ?_
        refine wM0 hQ (fun S9 hQ9 hR9 => ?_)
        refine r_aload_n (pc' := 34) h dX5_ends_33 rfl rfl ?_
        refine gX5_27 (pc' := 37) h dX5_ends_34 rfl hQ9.l0 hQ9.o rfl ?_
        refine r_if_eq (tgt := 49) (pc' := 40) h dX5_ends_37 (by decide) rfl (fun c6 => ?_) (fun c6 => ?_)
        · have hth : thr b x y z = 0 := by have e9 := c6; simp only [mI_sI, mI_sM] at e9; simp at e9; simp [thr, c0, c1, c2, e9]
          have hQ9 : isM G N S9 (sMI Q 0 0) := (congrArg (fun q => isM G N S9 (sMI Q 0 q)) c6).mp hQ9
          refine r_aload_n (pc' := 50) h dX5_ends_49 rfl rfl ?_
          refine gX5_34 (pc' := 53) h dX5_ends_50 rfl hQ9.l0 hQ9.o rfl ?_
          refine r_bipush (pc' := 55) (v := 8) h dX5_ends_53 rfl (by decide) ?_
          refine r_icmp_ne (tgt := 94) (pc' := 58) h dX5_ends_55 (by decide) rfl (fun c7 => ?_) (fun c7 => ?_)
          · have h8 := c7
            have h9 : (mI Q 2).toNatClampNeg < 8 := by have e9 := hc.2; rcases Nat.lt_or_ge (mI Q 2).toNatClampNeg 8 with q | q; exact q; exact absurd (show mI Q 2 = 8 by rw [hc.1, show (mI Q 2).toNatClampNeg = 8 by omega]; rfl) h8
            refine r_aload_n (pc' := 95) h dX5_ends_94 rfl rfl ?_
            refine r_dup (pc' := 96) h dX5_ends_95 rfl rfl ?_
            refine gX5_34 (pc' := 99) h dX5_ends_96 rfl hQ9.l0 hQ9.o rfl ?_
            refine r_iconst (pc' := 100) (v := 1) h dX5_ends_99 rfl (by decide) ?_
            refine r_iadd (pc' := 101) h dX5_ends_100 rfl ?_
            refine pX5_34 (pc' := 104) h dX5_ends_101 rfl hQ9.l0 hQ9.o (Nat.le_of_ble_eq_true rfl) ?_
            refine wM2 hQ9 (fun S10 hQ10 hR10 => ?_)
            refine r_aload_n (pc' := 105) h dX5_ends_104 rfl rfl ?_
            refine r_bipush (pc' := 107) (v := 10) h dX5_ends_105 rfl (by decide) ?_
            refine r_aload_n (pc' := 108) h dX5_ends_107 rfl rfl ?_
            refine gX5_34 (pc' := 111) h dX5_ends_108 rfl hQ10.l0 hQ10.o rfl ?_
            refine r_callV2 (pc' := 114) (M := mX5_copies) h hm dX5_ends_111 rfl lX5_30 vX5_copies rfl hQ10.l0 hQ10.o (Nat.le_of_ble_eq_true rfl) (rrb rfl) (kX5_copiesX (f := 10) (t := (mI Q 2).toNatClampNeg + 1) hQ10 rfl (by simp only [mI_sI, mI_sM]; simp; rw [← nI_1, ← hc.1]) (by decide) (by omega) (by omega) (fun S11 hQ11 hR11 => ?_))
            show AW X G _ _ _ _ _ _ _ _
            refine r_aload_n (pc' := 115) h dX5_ends_114 rfl rfl ?_
            refine gX5_37 (pc' := 118) h dX5_ends_115 rfl hQ11.l0 hQ11.o rfl ?_
            refine r_ireturn h hm dX5_ends_118 (Nat.le_of_ble_eq_true rfl) (Nat.le_of_ble_eq_true rfl) ?_
            refine kM hk hQ11 (((hR9).trans hR10).trans hR11) ?_
            rw [qEnd, if_pos hth]
            have h8b : ¬ mI Q 2 = 8 := h8
            have e10 : (mI Q 2 + 1).toNatClampNeg = (mI Q 2).toNatClampNeg + 1 := by rw [hc.1, nI_1, nI_clamp (by have := hc.2; omega), nI_clamp (by have := hc.2; omega)]
            rw [if_neg h8b, e10]; rfl
          · have h8 := c7
            refine r_iconst (pc' := 59) (v := 1) h dX5_ends_58 rfl (by decide) ?_
            refine r_istore (pc' := 61) h dX5_ends_59 rfl (by decide) rfl ?_
            have loop : ∀ (n j : Nat), j ≤ 7 → 7 - j < n → ∀ Sj, isM G N Sj (sMM (sMI Q 0 0) (shf (mM Q) j)) → GR S Sj → AW X G 6 N 61 [(0, .ref (ad G 119)), (1, .int b), (2, .int x), (3, .int y), (4, .int z), (5, .int (nI (j + 1)))] [] Sj 0 0 := by
              intro n
              induction n with
              | zero => intro j h1 h2; exact absurd h2 (by omega)
              | succ n ih =>
                intro j h1 h2 Sj hj1 hr1
                refine r_iload (pc' := 63) h dX5_ends_61 rfl rfl ?_
                refine r_bipush (pc' := 65) (v := 8) h dX5_ends_63 rfl (by decide) ?_
                refine r_icmp_ge (tgt := 84) (pc' := 68) h dX5_ends_65 (by decide) rfl (fun c8 => ?_) (fun c8 => ?_)
                · have ej : j = 7 := by rcases Nat.lt_or_ge j 7 with q | q; exact absurd c8 (nI_ge (a := j + 1) (b := 8) (by omega) (by decide)); omega
                  subst ej
                  refine r_aload_n (pc' := 85) h dX5_ends_84 rfl rfl ?_
                  refine r_dup (pc' := 86) h dX5_ends_85 rfl rfl ?_
                  refine gX5_34 (pc' := 89) h dX5_ends_86 rfl hj1.l0 hj1.o rfl ?_
                  refine r_iconst (pc' := 90) (v := 1) h dX5_ends_89 rfl (by decide) ?_
                  refine r_isub (pc' := 91) h dX5_ends_90 rfl ?_
                  refine pX5_34 (pc' := 94) h dX5_ends_91 rfl hj1.l0 hj1.o (Nat.le_of_ble_eq_true rfl) ?_
                  refine wM2 hj1 (fun S12 hQ12 hR12 => ?_)
                  refine r_aload_n (pc' := 95) h dX5_ends_94 rfl rfl ?_
                  refine r_dup (pc' := 96) h dX5_ends_95 rfl rfl ?_
                  refine gX5_34 (pc' := 99) h dX5_ends_96 rfl hQ12.l0 hQ12.o rfl ?_
                  refine r_iconst (pc' := 100) (v := 1) h dX5_ends_99 rfl (by decide) ?_
                  refine r_iadd (pc' := 101) h dX5_ends_100 rfl ?_
                  refine pX5_34 (pc' := 104) h dX5_ends_101 rfl hQ12.l0 hQ12.o (Nat.le_of_ble_eq_true rfl) ?_
                  refine wM2 hQ12 (fun S13 hQ13 hR13 => ?_)
                  refine r_aload_n (pc' := 105) h dX5_ends_104 rfl rfl ?_
                  refine r_bipush (pc' := 107) (v := 10) h dX5_ends_105 rfl (by decide) ?_
                  refine r_aload_n (pc' := 108) h dX5_ends_107 rfl rfl ?_
                  refine gX5_34 (pc' := 111) h dX5_ends_108 rfl hQ13.l0 hQ13.o rfl ?_
                  refine r_callV2 (pc' := 114) (M := mX5_copies) h hm dX5_ends_111 rfl lX5_30 vX5_copies rfl hQ13.l0 hQ13.o (Nat.le_of_ble_eq_true rfl) (rrb rfl) (kX5_copiesX (f := 10) (t := 8) hQ13 rfl (by have e8 := h8; simp only [mI_sI, mI_sM] at e8 ⊢; simp at e8 ⊢; rw [e8]; decide) (by decide) (by decide) (by decide) (fun S14 hQ14 hR14 => ?_))
                  show AW X G _ _ _ _ _ _ _ _
                  refine r_aload_n (pc' := 115) h dX5_ends_114 rfl rfl ?_
                  refine gX5_37 (pc' := 118) h dX5_ends_115 rfl hQ14.l0 hQ14.o rfl ?_
                  refine r_ireturn h hm dX5_ends_118 (Nat.le_of_ble_eq_true rfl) (Nat.le_of_ble_eq_true rfl) ?_
                  refine kM hk hQ14 ((((hr1).trans hR12).trans hR13).trans hR14) ?_
                  rw [qEnd, if_pos hth]
                  have h8b : mI Q 2 = 8 := h8
                  simp [mM_sI, mI_sI, mI_sM, mM_sM, h8b]
                · have hj : j < 7 := by rcases Nat.lt_or_ge j 7 with q | q; exact q; exact absurd (nI_le (a := 8) (b := j + 1) (by omega) (by omega)) c8
                  refine r_aload_n (pc' := 69) h dX5_ends_68 rfl rfl ?_
                  refine r_iload (pc' := 71) h dX5_ends_69 rfl rfl ?_
                  refine r_iconst (pc' := 72) (v := 1) h dX5_ends_71 rfl (by decide) ?_
                  refine r_iadd (pc' := 73) h dX5_ends_72 rfl ?_
                  refine r_iload (pc' := 75) h dX5_ends_73 rfl rfl ?_
                  refine r_callV2 (pc' := 78) (M := mX5_copies) h hm dX5_ends_75 rfl lX5_30 vX5_copies rfl hj1.l0 hj1.o (Nat.le_of_ble_eq_true rfl) (rrb rfl) (kX5_copiesX (f := j + 2) (t := j + 1) hj1 (by rw [nI_1]) rfl (by omega) (by omega) (by omega) (fun S15 hQ15 hR15 => ?_))
                  show AW X G _ _ _ _ _ _ _ _
                  refine r_iinc (pc' := 81) (v := 1) h dX5_ends_78 rfl (by decide) (by decide) rfl rfl ?_
                  refine r_goto (tgt := 61) h dX5_ends_81 (by decide) ?_
                  have hz : isM G N S15 (sMM (sMI Q 0 0) (shf (mM Q) (j + 1))) := hQ15
                  exact aw_cast (by simp [nI_1]) (ih (j + 1) (by omega) (by omega) _ hz ((hr1).trans hR15))
            exact loop 8 0 (Nat.zero_le _) (by omega) _ hQ9 hR9
        · refine r_aload_n (pc' := 41) h dX5_ends_40 rfl rfl ?_
          refine r_bipush (pc' := 43) (v := 10) h dX5_ends_41 rfl (by decide) ?_
          refine r_iconst (pc' := 44) (v := 0) h dX5_ends_43 rfl (by decide) ?_
          refine r_callV2 (pc' := 47) (M := mX5_copies) h hm dX5_ends_44 rfl lX5_30 vX5_copies rfl hQ9.l0 hQ9.o (Nat.le_of_ble_eq_true rfl) (rrb rfl) (kX5_copiesX (f := 10) (t := 0) hQ9 rfl rfl (by decide) (by decide) (by decide) (fun S16 hQ16 hR16 => ?_))
          show AW X G _ _ _ _ _ _ _ _
          refine r_iconst (pc' := 48) (v := 0) h dX5_ends_47 rfl (by decide) ?_
          refine r_ireturn h hm dX5_ends_48 (Nat.le_of_ble_eq_true rfl) (Nat.le_of_ble_eq_true rfl) ?_
          have hth : ¬ thr b x y z = 0 := by have e9 := c6; simp only [mI_sI, mI_sM] at e9; first | (simp at e9; done) | (simp at e9; simpa [thr, c0, c1, c2] using e9)
          refine kM hk hQ16 ((hR9).trans hR16) ?_
          rw [qEnd, if_neg hth]
          simp [thr, mM_sI, mI_sI, mI_sM, mM_sM, c0, c1, c2]
    · refine r_iload_n (pc' := 16) h dX5_ends_15 rfl rfl ?_
      refine r_goto (tgt := 30) h dX5_ends_16 (by decide) ?_
      refine pX5_27 (pc' := 33) h dX5_ends_30 rfl hQ.l0 hQ.o (Nat.le_of_ble_eq_true rfl) ?_
      refine wM0 hQ (fun S17 hQ17 hR17 => ?_)
      refine r_aload_n (pc' := 34) h dX5_ends_33 rfl rfl ?_
      refine gX5_27 (pc' := 37) h dX5_ends_34 rfl hQ17.l0 hQ17.o rfl ?_
      refine r_if_eq (tgt := 49) (pc' := 40) h dX5_ends_37 (by decide) rfl (fun c9 => ?_) (fun c9 => ?_)
      · have hth : thr b x y z = 0 := by have e9 := c9; simp only [mI_sI, mI_sM] at e9; simp at e9; simp [thr, c0, c1, e9]
        have hQ17 : isM G N S17 (sMI Q 0 0) := (congrArg (fun q => isM G N S17 (sMI Q 0 q)) c9).mp hQ17
        refine r_aload_n (pc' := 50) h dX5_ends_49 rfl rfl ?_
        refine gX5_34 (pc' := 53) h dX5_ends_50 rfl hQ17.l0 hQ17.o rfl ?_
        refine r_bipush (pc' := 55) (v := 8) h dX5_ends_53 rfl (by decide) ?_
        refine r_icmp_ne (tgt := 94) (pc' := 58) h dX5_ends_55 (by decide) rfl (fun c10 => ?_) (fun c10 => ?_)
        · have h8 := c10
          have h9 : (mI Q 2).toNatClampNeg < 8 := by have e9 := hc.2; rcases Nat.lt_or_ge (mI Q 2).toNatClampNeg 8 with q | q; exact q; exact absurd (show mI Q 2 = 8 by rw [hc.1, show (mI Q 2).toNatClampNeg = 8 by omega]; rfl) h8
          refine r_aload_n (pc' := 95) h dX5_ends_94 rfl rfl ?_
          refine r_dup (pc' := 96) h dX5_ends_95 rfl rfl ?_
          refine gX5_34 (pc' := 99) h dX5_ends_96 rfl hQ17.l0 hQ17.o rfl ?_
          refine r_iconst (pc' := 100) (v := 1) h dX5_ends_99 rfl (by decide) ?_
          refine r_iadd (pc' := 101) h dX5_ends_100 rfl ?_
          refine pX5_34 (pc' := 104) h dX5_ends_101 rfl hQ17.l0 hQ17.o (Nat.le_of_ble_eq_true rfl) ?_
          refine wM2 hQ17 (fun S18 hQ18 hR18 => ?_)
          refine r_aload_n (pc' := 105) h dX5_ends_104 rfl rfl ?_
          refine r_bipush (pc' := 107) (v := 10) h dX5_ends_105 rfl (by decide) ?_
          refine r_aload_n (pc' := 108) h dX5_ends_107 rfl rfl ?_
          refine gX5_34 (pc' := 111) h dX5_ends_108 rfl hQ18.l0 hQ18.o rfl ?_
          refine r_callV2 (pc' := 114) (M := mX5_copies) h hm dX5_ends_111 rfl lX5_30 vX5_copies rfl hQ18.l0 hQ18.o (Nat.le_of_ble_eq_true rfl) (rrb rfl) (kX5_copiesX (f := 10) (t := (mI Q 2).toNatClampNeg + 1) hQ18 rfl (by simp only [mI_sI, mI_sM]; simp; rw [← nI_1, ← hc.1]) (by decide) (by omega) (by omega) (fun S19 hQ19 hR19 => ?_))
          show AW X G _ _ _ _ _ _ _ _
          refine r_aload_n (pc' := 115) h dX5_ends_114 rfl rfl ?_
          refine gX5_37 (pc' := 118) h dX5_ends_115 rfl hQ19.l0 hQ19.o rfl ?_
          refine r_ireturn h hm dX5_ends_118 (Nat.le_of_ble_eq_true rfl) (Nat.le_of_ble_eq_true rfl) ?_
          refine kM hk hQ19 (((hR17).trans hR18).trans hR19) ?_
          rw [qEnd, if_pos hth]
          have h8b : ¬ mI Q 2 = 8 := h8
          have e10 : (mI Q 2 + 1).toNatClampNeg = (mI Q 2).toNatClampNeg + 1 := by rw [hc.1, nI_1, nI_clamp (by have := hc.2; omega), nI_clamp (by have := hc.2; omega)]
          rw [if_neg h8b, e10]; rfl
        · have h8 := c10
          refine r_iconst (pc' := 59) (v := 1) h dX5_ends_58 rfl (by decide) ?_
          refine r_istore (pc' := 61) h dX5_ends_59 rfl (by decide) rfl ?_
          have loop : ∀ (n j : Nat), j ≤ 7 → 7 - j < n → ∀ Sj, isM G N Sj (sMM (sMI Q 0 0) (shf (mM Q) j)) → GR S Sj → AW X G 6 N 61 [(0, .ref (ad G 119)), (1, .int b), (2, .int x), (3, .int y), (4, .int z), (5, .int (nI (j + 1)))] [] Sj 0 0 := by
            intro n
            induction n with
            | zero => intro j h1 h2; exact absurd h2 (by omega)
            | succ n ih =>
              intro j h1 h2 Sj hj1 hr1
              refine r_iload (pc' := 63) h dX5_ends_61 rfl rfl ?_
              refine r_bipush (pc' := 65) (v := 8) h dX5_ends_63 rfl (by decide) ?_
              refine r_icmp_ge (tgt := 84) (pc' := 68) h dX5_ends_65 (by decide) rfl (fun c11 => ?_) (fun c11 => ?_)
              · have ej : j = 7 := by rcases Nat.lt_or_ge j 7 with q | q; exact absurd c11 (nI_ge (a := j + 1) (b := 8) (by omega) (by decide)); omega
                subst ej
                refine r_aload_n (pc' := 85) h dX5_ends_84 rfl rfl ?_
                refine r_dup (pc' := 86) h dX5_ends_85 rfl rfl ?_
                refine gX5_34 (pc' := 89) h dX5_ends_86 rfl hj1.l0 hj1.o rfl ?_
                refine r_iconst (pc' := 90) (v := 1) h dX5_ends_89 rfl (by decide) ?_
                refine r_isub (pc' := 91) h dX5_ends_90 rfl ?_
                refine pX5_34 (pc' := 94) h dX5_ends_91 rfl hj1.l0 hj1.o (Nat.le_of_ble_eq_true rfl) ?_
                refine wM2 hj1 (fun S20 hQ20 hR20 => ?_)
                refine r_aload_n (pc' := 95) h dX5_ends_94 rfl rfl ?_
                refine r_dup (pc' := 96) h dX5_ends_95 rfl rfl ?_
                refine gX5_34 (pc' := 99) h dX5_ends_96 rfl hQ20.l0 hQ20.o rfl ?_
                refine r_iconst (pc' := 100) (v := 1) h dX5_ends_99 rfl (by decide) ?_
                refine r_iadd (pc' := 101) h dX5_ends_100 rfl ?_
                refine pX5_34 (pc' := 104) h dX5_ends_101 rfl hQ20.l0 hQ20.o (Nat.le_of_ble_eq_true rfl) ?_
                refine wM2 hQ20 (fun S21 hQ21 hR21 => ?_)
                refine r_aload_n (pc' := 105) h dX5_ends_104 rfl rfl ?_
                refine r_bipush (pc' := 107) (v := 10) h dX5_ends_105 rfl (by decide) ?_
                refine r_aload_n (pc' := 108) h dX5_ends_107 rfl rfl ?_
                refine gX5_34 (pc' := 111) h dX5_ends_108 rfl hQ21.l0 hQ21.o rfl ?_
                refine r_callV2 (pc' := 114) (M := mX5_copies) h hm dX5_ends_111 rfl lX5_30 vX5_copies rfl hQ21.l0 hQ21.o (Nat.le_of_ble_eq_true rfl) (rrb rfl) (kX5_copiesX (f := 10) (t := 8) hQ21 rfl (by have e8 := h8; simp only [mI_sI, mI_sM] at e8 ⊢; simp at e8 ⊢; rw [e8]; decide) (by decide) (by decide) (by decide) (fun S22 hQ22 hR22 => ?_))
                show AW X G _ _ _ _ _ _ _ _
                refine r_aload_n (pc' := 115) h dX5_ends_114 rfl rfl ?_
                refine gX5_37 (pc' := 118) h dX5_ends_115 rfl hQ22.l0 hQ22.o rfl ?_
                refine r_ireturn h hm dX5_ends_118 (Nat.le_of_ble_eq_true rfl) (Nat.le_of_ble_eq_true rfl) ?_
                refine kM hk hQ22 ((((hr1).trans hR20).trans hR21).trans hR22) ?_
                rw [qEnd, if_pos hth]
                have h8b : mI Q 2 = 8 := h8
                simp [mM_sI, mI_sI, mI_sM, mM_sM, h8b]
              · have hj : j < 7 := by rcases Nat.lt_or_ge j 7 with q | q; exact q; exact absurd (nI_le (a := 8) (b := j + 1) (by omega) (by omega)) c11
                refine r_aload_n (pc' := 69) h dX5_ends_68 rfl rfl ?_
                refine r_iload (pc' := 71) h dX5_ends_69 rfl rfl ?_
                refine r_iconst (pc' := 72) (v := 1) h dX5_ends_71 rfl (by decide) ?_
                refine r_iadd (pc' := 73) h dX5_ends_72 rfl ?_
                refine r_iload (pc' := 75) h dX5_ends_73 rfl rfl ?_
                refine r_callV2 (pc' := 78) (M := mX5_copies) h hm dX5_ends_75 rfl lX5_30 vX5_copies rfl hj1.l0 hj1.o (Nat.le_of_ble_eq_true rfl) (rrb rfl) (kX5_copiesX (f := j + 2) (t := j + 1) hj1 (by rw [nI_1]) rfl (by omega) (by omega) (by omega) (fun S23 hQ23 hR23 => ?_))
                show AW X G _ _ _ _ _ _ _ _
                refine r_iinc (pc' := 81) (v := 1) h dX5_ends_78 rfl (by decide) (by decide) rfl rfl ?_
                refine r_goto (tgt := 61) h dX5_ends_81 (by decide) ?_
                have hz : isM G N S23 (sMM (sMI Q 0 0) (shf (mM Q) (j + 1))) := hQ23
                exact aw_cast (by simp [nI_1]) (ih (j + 1) (by omega) (by omega) _ hz ((hr1).trans hR23))
          exact loop 8 0 (Nat.zero_le _) (by omega) _ hQ17 hR17
      · refine r_aload_n (pc' := 41) h dX5_ends_40 rfl rfl ?_
        refine r_bipush (pc' := 43) (v := 10) h dX5_ends_41 rfl (by decide) ?_
        refine r_iconst (pc' := 44) (v := 0) h dX5_ends_43 rfl (by decide) ?_
        refine r_callV2 (pc' := 47) (M := mX5_copies) h hm dX5_ends_44 rfl lX5_30 vX5_copies rfl hQ17.l0 hQ17.o (Nat.le_of_ble_eq_true rfl) (rrb rfl) (kX5_copiesX (f := 10) (t := 0) hQ17 rfl rfl (by decide) (by decide) (by decide) (fun S24 hQ24 hR24 => ?_))
        show AW X G _ _ _ _ _ _ _ _
        refine r_iconst (pc' := 48) (v := 0) h dX5_ends_47 rfl (by decide) ?_
        refine r_ireturn h hm dX5_ends_48 (Nat.le_of_ble_eq_true rfl) (Nat.le_of_ble_eq_true rfl) ?_
        have hth : ¬ thr b x y z = 0 := by have e9 := c9; simp only [mI_sI, mI_sM] at e9; first | (simp at e9; done) | (simp at e9; simpa [thr, c0, c1] using e9)
        refine kM hk hQ24 ((hR17).trans hR24) ?_
        rw [qEnd, if_neg hth]
        simp [thr, mM_sI, mI_sI, mI_sM, mM_sM, c0, c1]
  · refine r_iload_n (pc' := 7) h dX5_ends_6 rfl rfl ?_
    refine r_goto (tgt := 30) h dX5_ends_7 (by decide) ?_
    refine pX5_27 (pc' := 33) h dX5_ends_30 rfl hQ.l0 hQ.o (Nat.le_of_ble_eq_true rfl) ?_
    refine wM0 hQ (fun S25 hQ25 hR25 => ?_)
    refine r_aload_n (pc' := 34) h dX5_ends_33 rfl rfl ?_
    refine gX5_27 (pc' := 37) h dX5_ends_34 rfl hQ25.l0 hQ25.o rfl ?_
    refine r_if_eq (tgt := 49) (pc' := 40) h dX5_ends_37 (by decide) rfl (fun c12 => ?_) (fun c12 => ?_)
    · have hth : thr b x y z = 0 := by have e9 := c12; simp only [mI_sI, mI_sM] at e9; simp at e9; simp [thr, c0, e9]
      have hQ25 : isM G N S25 (sMI Q 0 0) := (congrArg (fun q => isM G N S25 (sMI Q 0 q)) c12).mp hQ25
      refine r_aload_n (pc' := 50) h dX5_ends_49 rfl rfl ?_
      refine gX5_34 (pc' := 53) h dX5_ends_50 rfl hQ25.l0 hQ25.o rfl ?_
      refine r_bipush (pc' := 55) (v := 8) h dX5_ends_53 rfl (by decide) ?_
      refine r_icmp_ne (tgt := 94) (pc' := 58) h dX5_ends_55 (by decide) rfl (fun c13 => ?_) (fun c13 => ?_)
      · have h8 := c13
        have h9 : (mI Q 2).toNatClampNeg < 8 := by have e9 := hc.2; rcases Nat.lt_or_ge (mI Q 2).toNatClampNeg 8 with q | q; exact q; exact absurd (show mI Q 2 = 8 by rw [hc.1, show (mI Q 2).toNatClampNeg = 8 by omega]; rfl) h8
        refine r_aload_n (pc' := 95) h dX5_ends_94 rfl rfl ?_
        refine r_dup (pc' := 96) h dX5_ends_95 rfl rfl ?_
        refine gX5_34 (pc' := 99) h dX5_ends_96 rfl hQ25.l0 hQ25.o rfl ?_
        refine r_iconst (pc' := 100) (v := 1) h dX5_ends_99 rfl (by decide) ?_
        refine r_iadd (pc' := 101) h dX5_ends_100 rfl ?_
        refine pX5_34 (pc' := 104) h dX5_ends_101 rfl hQ25.l0 hQ25.o (Nat.le_of_ble_eq_true rfl) ?_
        refine wM2 hQ25 (fun S26 hQ26 hR26 => ?_)
        refine r_aload_n (pc' := 105) h dX5_ends_104 rfl rfl ?_
        refine r_bipush (pc' := 107) (v := 10) h dX5_ends_105 rfl (by decide) ?_
        refine r_aload_n (pc' := 108) h dX5_ends_107 rfl rfl ?_
        refine gX5_34 (pc' := 111) h dX5_ends_108 rfl hQ26.l0 hQ26.o rfl ?_
        refine r_callV2 (pc' := 114) (M := mX5_copies) h hm dX5_ends_111 rfl lX5_30 vX5_copies rfl hQ26.l0 hQ26.o (Nat.le_of_ble_eq_true rfl) (rrb rfl) (kX5_copiesX (f := 10) (t := (mI Q 2).toNatClampNeg + 1) hQ26 rfl (by simp only [mI_sI, mI_sM]; simp; rw [← nI_1, ← hc.1]) (by decide) (by omega) (by omega) (fun S27 hQ27 hR27 => ?_))
        show AW X G _ _ _ _ _ _ _ _
        refine r_aload_n (pc' := 115) h dX5_ends_114 rfl rfl ?_
        refine gX5_37 (pc' := 118) h dX5_ends_115 rfl hQ27.l0 hQ27.o rfl ?_
        refine r_ireturn h hm dX5_ends_118 (Nat.le_of_ble_eq_true rfl) (Nat.le_of_ble_eq_true rfl) ?_
        refine kM hk hQ27 (((hR25).trans hR26).trans hR27) ?_
        rw [qEnd, if_pos hth]
        have h8b : ¬ mI Q 2 = 8 := h8
        have e10 : (mI Q 2 + 1).toNatClampNeg = (mI Q 2).toNatClampNeg + 1 := by rw [hc.1, nI_1, nI_clamp (by have := hc.2; omega), nI_clamp (by have := hc.2; omega)]
        rw [if_neg h8b, e10]; rfl
      · have h8 := c13
        refine r_iconst (pc' := 59) (v := 1) h dX5_ends_58 rfl (by decide) ?_
        refine r_istore (pc' := 61) h dX5_ends_59 rfl (by decide) rfl ?_
        have loop : ∀ (n j : Nat), j ≤ 7 → 7 - j < n → ∀ Sj, isM G N Sj (sMM (sMI Q 0 0) (shf (mM Q) j)) → GR S Sj → AW X G 6 N 61 [(0, .ref (ad G 119)), (1, .int b), (2, .int x), (3, .int y), (4, .int z), (5, .int (nI (j + 1)))] [] Sj 0 0 := by
          intro n
          induction n with
          | zero => intro j h1 h2; exact absurd h2 (by omega)
          | succ n ih =>
            intro j h1 h2 Sj hj1 hr1
            refine r_iload (pc' := 63) h dX5_ends_61 rfl rfl ?_
            refine r_bipush (pc' := 65) (v := 8) h dX5_ends_63 rfl (by decide) ?_
            refine r_icmp_ge (tgt := 84) (pc' := 68) h dX5_ends_65 (by decide) rfl (fun c14 => ?_) (fun c14 => ?_)
            · have ej : j = 7 := by rcases Nat.lt_or_ge j 7 with q | q; exact absurd c14 (nI_ge (a := j + 1) (b := 8) (by omega) (by decide)); omega
              subst ej
              refine r_aload_n (pc' := 85) h dX5_ends_84 rfl rfl ?_
              refine r_dup (pc' := 86) h dX5_ends_85 rfl rfl ?_
              refine gX5_34 (pc' := 89) h dX5_ends_86 rfl hj1.l0 hj1.o rfl ?_
              refine r_iconst (pc' := 90) (v := 1) h dX5_ends_89 rfl (by decide) ?_
              refine r_isub (pc' := 91) h dX5_ends_90 rfl ?_
              refine pX5_34 (pc' := 94) h dX5_ends_91 rfl hj1.l0 hj1.o (Nat.le_of_ble_eq_true rfl) ?_
              refine wM2 hj1 (fun S28 hQ28 hR28 => ?_)
              refine r_aload_n (pc' := 95) h dX5_ends_94 rfl rfl ?_
              refine r_dup (pc' := 96) h dX5_ends_95 rfl rfl ?_
              refine gX5_34 (pc' := 99) h dX5_ends_96 rfl hQ28.l0 hQ28.o rfl ?_
              refine r_iconst (pc' := 100) (v := 1) h dX5_ends_99 rfl (by decide) ?_
              refine r_iadd (pc' := 101) h dX5_ends_100 rfl ?_
              refine pX5_34 (pc' := 104) h dX5_ends_101 rfl hQ28.l0 hQ28.o (Nat.le_of_ble_eq_true rfl) ?_
              refine wM2 hQ28 (fun S29 hQ29 hR29 => ?_)
              refine r_aload_n (pc' := 105) h dX5_ends_104 rfl rfl ?_
              refine r_bipush (pc' := 107) (v := 10) h dX5_ends_105 rfl (by decide) ?_
              refine r_aload_n (pc' := 108) h dX5_ends_107 rfl rfl ?_
              refine gX5_34 (pc' := 111) h dX5_ends_108 rfl hQ29.l0 hQ29.o rfl ?_
              refine r_callV2 (pc' := 114) (M := mX5_copies) h hm dX5_ends_111 rfl lX5_30 vX5_copies rfl hQ29.l0 hQ29.o (Nat.le_of_ble_eq_true rfl) (rrb rfl) (kX5_copiesX (f := 10) (t := 8) hQ29 rfl (by have e8 := h8; simp only [mI_sI, mI_sM] at e8 ⊢; simp at e8 ⊢; rw [e8]; decide) (by decide) (by decide) (by decide) (fun S30 hQ30 hR30 => ?_))
              show AW X G _ _ _ _ _ _ _ _
              refine r_aload_n (pc' := 115) h dX5_ends_114 rfl rfl ?_
              refine gX5_37 (pc' := 118) h dX5_ends_115 rfl hQ30.l0 hQ30.o rfl ?_
              refine r_ireturn h hm dX5_ends_118 (Nat.le_of_ble_eq_true rfl) (Nat.le_of_ble_eq_true rfl) ?_
              refine kM hk hQ30 ((((hr1).trans hR28).trans hR29).trans hR30) ?_
              rw [qEnd, if_pos hth]
              have h8b : mI Q 2 = 8 := h8
              simp [mM_sI, mI_sI, mI_sM, mM_sM, h8b]
            · have hj : j < 7 := by rcases Nat.lt_or_ge j 7 with q | q; exact q; exact absurd (nI_le (a := 8) (b := j + 1) (by omega) (by omega)) c14
              refine r_aload_n (pc' := 69) h dX5_ends_68 rfl rfl ?_
              refine r_iload (pc' := 71) h dX5_ends_69 rfl rfl ?_
              refine r_iconst (pc' := 72) (v := 1) h dX5_ends_71 rfl (by decide) ?_
              refine r_iadd (pc' := 73) h dX5_ends_72 rfl ?_
              refine r_iload (pc' := 75) h dX5_ends_73 rfl rfl ?_
              refine r_callV2 (pc' := 78) (M := mX5_copies) h hm dX5_ends_75 rfl lX5_30 vX5_copies rfl hj1.l0 hj1.o (Nat.le_of_ble_eq_true rfl) (rrb rfl) (kX5_copiesX (f := j + 2) (t := j + 1) hj1 (by rw [nI_1]) rfl (by omega) (by omega) (by omega) (fun S31 hQ31 hR31 => ?_))
              show AW X G _ _ _ _ _ _ _ _
              refine r_iinc (pc' := 81) (v := 1) h dX5_ends_78 rfl (by decide) (by decide) rfl rfl ?_
              refine r_goto (tgt := 61) h dX5_ends_81 (by decide) ?_
              have hz : isM G N S31 (sMM (sMI Q 0 0) (shf (mM Q) (j + 1))) := hQ31
              exact aw_cast (by simp [nI_1]) (ih (j + 1) (by omega) (by omega) _ hz ((hr1).trans hR31))
        exact loop 8 0 (Nat.zero_le _) (by omega) _ hQ25 hR25
    · refine r_aload_n (pc' := 41) h dX5_ends_40 rfl rfl ?_
      refine r_bipush (pc' := 43) (v := 10) h dX5_ends_41 rfl (by decide) ?_
      refine r_iconst (pc' := 44) (v := 0) h dX5_ends_43 rfl (by decide) ?_
      refine r_callV2 (pc' := 47) (M := mX5_copies) h hm dX5_ends_44 rfl lX5_30 vX5_copies rfl hQ25.l0 hQ25.o (Nat.le_of_ble_eq_true rfl) (rrb rfl) (kX5_copiesX (f := 10) (t := 0) hQ25 rfl rfl (by decide) (by decide) (by decide) (fun S32 hQ32 hR32 => ?_))
      show AW X G _ _ _ _ _ _ _ _
      refine r_iconst (pc' := 48) (v := 0) h dX5_ends_47 rfl (by decide) ?_
      refine r_ireturn h hm dX5_ends_48 (Nat.le_of_ble_eq_true rfl) (Nat.le_of_ble_eq_true rfl) ?_
      have hth : ¬ thr b x y z = 0 := by have e9 := c12; simp only [mI_sI, mI_sM] at e9; first | (simp at e9; done) | (simp at e9; simpa [thr, c0] using e9)
      refine kM hk hQ32 ((hR25).trans hR32) ?_
      rw [qEnd, if_neg hth]
      simp [thr, mM_sI, mI_sI, mI_sM, mM_sM, c0]
theorem wM_isS {G : GX} {N : Nat} {S : Nat → va_E} {Q : MM} {t w v : Int32} (_ : isM G N S (sMM Q (qSet (mM Q) t w v))) (hw : wM (mM Q)) (ht : vp_in t 12) {k : Nat} (hk : w = nI k) (hk6 : k < 6) : wM (mM (sMM Q (qSet (mM Q) t w v))) := by
  subst hk
  obtain ⟨j, hj, rfl⟩ := vp_in_of ht (by decide)
  have e : qSet (mM Q) (nI j) (nI k) v 0 = mM Q 0 := by
    unfold qSet upd
    rw [show (57 : Int32) = nI 57 from rfl, show (6 : Int32) = nI 6 from rfl, pk_mul, nI_add, nI_add, nI_clamp (by omega), if_neg (by omega)]
  unfold wM qN
  rw [mM_sM, e]
  exact hw
theorem wM_isU {G : GX} {N : Nat} {S : Nat → va_E} {Q : MM} {k : Nat} {v : Int32} (_ : isM G N S (sMM Q (upd (mM Q) k v))) (hw : wM (mM Q)) (hk : k ≠ 0) : wM (mM (sMM Q (upd (mM Q) k v))) := by
  have e : upd (mM Q) k v 0 = mM Q 0 := by unfold upd; rw [if_neg (Ne.symm hk)]
  unfold wM qN
  rw [mM_sM, e]
  exact hw
theorem wM_lt {M : Nat → Int32} (hw : wM M) (h : ¬ M 0 = 12) : vp_in (M 0) 12 := by
  rw [hw.1]
  have : qN M ≠ 12 := fun z => h (by rw [hw.1, z]; rfl)
  exact vp_in_nI (by have := hw.2; omega) (by decide)
theorem isH_in {x : Int32} (h : isHour' x = true) : vp_in x 24 := wIn_in (show wIn x 0 23 = true from h) rfl rfl (a := 23) (by decide) (by decide)
theorem kX5_adds {l : Launch} {G : GX} {N : Nat} {S : Nat → va_E} {K : RK} {Q : MM} (hQ : isM G N S Q) (hw : wM (mM Q)) {x y z : Int32} (hk : ∀ S1, isM G N S1 (qAdd Q x y z).1 → GR S S1 → K (.inl (some (.int (qAdd Q x y z).2))) S1) : RetK l G N mX5_adds (2, 45, 0, 0) [.ref (ad G 119), .int x, .int y, .int z] S K := by
  refine ret_enter (by decide +kernel) (Nat.le_of_ble_eq_true rfl) (fun X hX h hm => ?_)
  subst hX
  replace h : OK X G N cX5_adds RX5 7 (2, 45, 0, 0) := h
  replace hm : OKm X G N K (some .int) (2, 45, 0, 0) := hm
  show AW X G 7 N 0 [(0, _), (1, _), (2, _), (3, _)] [] S 0 0
  refine r_iload_n (pc' := 1) h dX5_adds_0 rfl rfl ?_
  refine r_iload_n (pc' := 2) h dX5_adds_1 rfl rfl ?_
  refine r_callS2 (pc' := 5) (M := mX5_isCell) h hm dX5_adds_2 rfl lX5_80 vX5_isCell (Nat.le_of_ble_eq_true rfl) (rrb rfl) (kX5_isCell ?_)
  show AW X G _ _ _ _ _ _ _ _
  refine r_if_neb (tgt := 10) (pc' := 8) h dX5_adds_5 (by decide) rfl (fun c0 => ?_) (fun c0 => ?_)
  · refine r_iload_n (pc' := 11) h dX5_adds_10 rfl rfl ?_
    refine r_iconst (pc' := 12) (v := 1) h dX5_adds_11 rfl (by decide) ?_
    refine r_bipush (pc' := 14) (v := 9) h dX5_adds_12 rfl (by decide) ?_
    refine r_callS3 (pc' := 17) (M := mX5_in) h hm dX5_adds_14 rfl lX5_53 vX5_in (Nat.le_of_ble_eq_true rfl) (rrb rfl) (kX5_in ?_)
    show AW X G _ _ _ _ _ _ _ _
    refine r_if_neb (tgt := 22) (pc' := 20) h dX5_adds_17 (by decide) rfl (fun c1 => ?_) (fun c1 => ?_)
    · refine r_aload_n (pc' := 23) h dX5_adds_22 rfl rfl ?_
      refine gX5_9 (pc' := 26) h dX5_adds_23 rfl hQ.l0 hQ.o rfl ?_
      refine r_iconst (pc' := 27) (v := 0) h dX5_adds_26 rfl (by decide) ?_
      refine r_ialdk (k0 := 0) (pc' := 28) h dX5_adds_27 rfl hQ.l1 hQ.r1 (by unfold vp_in; decide) rfl ?_
      refine r_istore (pc' := 30) h dX5_adds_28 rfl (by decide) rfl ?_
      refine r_aload_n (pc' := 31) h dX5_adds_30 rfl rfl ?_
      refine r_iload_n (pc' := 32) h dX5_adds_31 rfl rfl ?_
      refine r_iload_n (pc' := 33) h dX5_adds_32 rfl rfl ?_
      refine r_callV2 (pc' := 36) (M := mX5_inCell) h hm dX5_adds_33 rfl lX5_61 vX5_inCell rfl hQ.l0 hQ.o (Nat.le_of_ble_eq_true rfl) (rrb rfl) (kX5_inCell hQ hw ?_)
      show AW X G _ _ _ _ _ _ _ _
      refine r_istore (pc' := 38) h dX5_adds_36 rfl (by decide) rfl ?_
      refine r_aload_n (pc' := 39) h dX5_adds_38 rfl rfl ?_
      refine r_iload (pc' := 41) h dX5_adds_39 rfl rfl ?_
      refine r_bipush (pc' := 43) (v := 12) h dX5_adds_41 rfl (by decide) ?_
      refine r_icmp_ne (tgt := 50) (pc' := 46) h dX5_adds_43 (by decide) rfl (fun c2 => ?_) (fun c2 => ?_)
      · have ht := wM_lt hw c2
        refine r_iconst (pc' := 51) (v := 0) h dX5_adds_50 rfl (by decide) ?_
        refine r_iconst (pc' := 52) (v := 1) h dX5_adds_51 rfl (by decide) ?_
        refine r_bipush (pc' := 54) (v := 12) h dX5_adds_52 rfl (by decide) ?_
        refine r_callV3 (pc' := 57) (M := mX5_rejects) h hm dX5_adds_54 rfl lX5_84 vX5_rejects rfl hQ.l0 hQ.o (Nat.le_of_ble_eq_true rfl) (rrb rfl) (kX5_rejects0 hQ ?_)
        show AW X G _ _ _ _ _ _ _ _
        refine r_if_ne (tgt := 80) (pc' := 60) h dX5_adds_57 (by decide) rfl (fun c => absurd c (by decide)) (fun _ => ?_)
        refine r_aload_n (pc' := 61) h dX5_adds_60 rfl rfl ?_
        refine r_iload (pc' := 63) h dX5_adds_61 rfl rfl ?_
        refine r_if_lt (tgt := 70) (pc' := 66) h dX5_adds_63 (by decide) rfl (fun c4 => ?_) (fun c4 => ?_)
        · refine r_iconst (pc' := 71) (v := 0) h dX5_adds_70 rfl (by decide) ?_
          refine r_iconst (pc' := 72) (v := 2) h dX5_adds_71 rfl (by decide) ?_
          refine r_iload (pc' := 74) h dX5_adds_72 rfl rfl ?_
          refine r_callV3 (pc' := 77) (M := mX5_rejects) h hm dX5_adds_74 rfl lX5_84 vX5_rejects rfl hQ.l0 hQ.o (Nat.le_of_ble_eq_true rfl) (rrb rfl) (kX5_rejects0 hQ ?_)
          show AW X G _ _ _ _ _ _ _ _
          refine r_if_eq (tgt := 82) (pc' := 80) h dX5_adds_77 (by decide) rfl (fun _ => ?_) (fun c => absurd c (by decide))
          refine r_aload_n (pc' := 83) h dX5_adds_82 rfl rfl ?_
          refine gX5_9 (pc' := 86) h dX5_adds_83 rfl hQ.l0 hQ.o rfl ?_
          refine r_iconst (pc' := 87) (v := 0) h dX5_adds_86 rfl (by decide) ?_
          refine r_dup2 (pc' := 88) h dX5_adds_87 rfl rfl rfl ?_
          refine r_ialdk (k0 := 0) (pc' := 89) h dX5_adds_88 rfl hQ.l1 hQ.r1 (by unfold vp_in; decide) rfl ?_
          refine r_iconst (pc' := 90) (v := 1) h dX5_adds_89 rfl (by decide) ?_
          refine r_iadd (pc' := 91) h dX5_adds_90 rfl ?_
          refine r_iastk (k0 := 0) (pc' := 92) h dX5_adds_91 rfl hQ.l1 hQ.r1 (by unfold vp_in; decide) rfl ?_
          refine wU0 hQ (fun S1 hQ1 hR1 => ?_)
          refine r_iconst (pc' := 93) (v := 0) h dX5_adds_92 rfl (by decide) ?_
          refine r_istore (pc' := 95) h dX5_adds_93 rfl (by decide) rfl ?_
          have loop : ∀ (n j : Nat), j ≤ 6 → 6 - j < n → ∀ Sj, isM G N Sj (sMM Q (zer (upd (mM Q) 0 (mM Q 0 + 1)) (mM Q 0) j)) → GR S Sj → AW X G 7 N 95 [(0, .ref (ad G 119)), (1, .int x), (2, .int y), (3, .int z), (4, .int (mM Q 0)), (5, .int (qIn (mM Q) x y)), (6, .int (nI j))] [] Sj 0 0 := by
            intro n
            induction n with
            | zero => intro j h1 h2; exact absurd h2 (by omega)
            | succ n ih =>
              intro j h1 h2 Sj hj1 hr1
              refine r_iload (pc' := 97) h dX5_adds_95 rfl rfl ?_
              refine r_bipush (pc' := 99) (v := 6) h dX5_adds_97 rfl (by decide) ?_
              refine r_icmp_ge (tgt := 117) (pc' := 102) h dX5_adds_99 (by decide) rfl (fun c6 => ?_) (fun c6 => ?_)
              · have ej := lp_ge (c := 6) (rfl : (6 : Int32) = nI 6) (by decide) h1 c6
                subst ej
                refine r_aload_n (pc' := 118) h dX5_adds_117 rfl rfl ?_
                refine r_iload (pc' := 120) h dX5_adds_118 rfl rfl ?_
                refine r_iconst (pc' := 121) (v := 0) h dX5_adds_120 rfl (by decide) ?_
                refine r_iload_n (pc' := 122) h dX5_adds_121 rfl rfl ?_
                refine r_callV3 (pc' := 125) (M := mX5_set) h hm dX5_adds_122 rfl lX5_88 vX5_set rfl hj1.l0 hj1.o (Nat.le_of_ble_eq_true rfl) (rrb rfl) (kX5_set hj1 (ix_T (w := 0) (ht) (by decide)) (fun S2 hQ2 hR2 => ?_))
                show AW X G _ _ _ _ _ _ _ _
                refine r_aload_n (pc' := 126) h dX5_adds_125 rfl rfl ?_
                refine r_iload (pc' := 128) h dX5_adds_126 rfl rfl ?_
                refine r_iconst (pc' := 129) (v := 1) h dX5_adds_128 rfl (by decide) ?_
                refine r_iload_n (pc' := 130) h dX5_adds_129 rfl rfl ?_
                refine r_callV3 (pc' := 133) (M := mX5_set) h hm dX5_adds_130 rfl lX5_88 vX5_set rfl hQ2.l0 hQ2.o (Nat.le_of_ble_eq_true rfl) (rrb rfl) (kX5_set hQ2 (ix_T (w := 1) (ht) (by decide)) (fun S3 hQ3 hR3 => ?_))
                show AW X G _ _ _ _ _ _ _ _
                refine r_aload_n (pc' := 134) h dX5_adds_133 rfl rfl ?_
                refine r_iload (pc' := 136) h dX5_adds_134 rfl rfl ?_
                refine r_iconst (pc' := 137) (v := 2) h dX5_adds_136 rfl (by decide) ?_
                refine r_iload_n (pc' := 138) h dX5_adds_137 rfl rfl ?_
                refine r_callV3 (pc' := 141) (M := mX5_set) h hm dX5_adds_138 rfl lX5_88 vX5_set rfl hQ3.l0 hQ3.o (Nat.le_of_ble_eq_true rfl) (rrb rfl) (kX5_set hQ3 (ix_T (w := 2) (ht) (by decide)) (fun S4 hQ4 hR4 => ?_))
                show AW X G _ _ _ _ _ _ _ _
                refine r_aload_n (pc' := 142) h dX5_adds_141 rfl rfl ?_
                refine r_iload (pc' := 144) h dX5_adds_142 rfl rfl ?_
                refine pX5_37 (pc' := 147) h dX5_adds_144 rfl hQ4.l0 hQ4.o (Nat.le_of_ble_eq_true rfl) ?_
                refine wM4 hQ4 (fun S5 hQ5 hR5 => ?_)
                refine r_iconst (pc' := 148) (v := 0) h dX5_adds_147 rfl (by decide) ?_
                refine r_ireturn h hm dX5_adds_148 (Nat.le_of_ble_eq_true rfl) (Nat.le_of_ble_eq_true rfl) ?_
                exact kM hk hQ5 (((((hr1).trans hR2).trans hR3).trans hR4).trans hR5) (by first | rfl | contradiction | (simp [qAdd, mM_sI, mI_sI, mI_sM, mM_sM, c0, c1, c2, c4, c6]; done) | (simp [qAdd, mM_sI, mI_sI, mI_sM, mM_sM, c0, c1, c2, c4, c6]; rfl))
              · have hj := lp_lt (c := 6) (rfl : (6 : Int32) = nI 6) (by decide) h1 c6
                refine r_aload_n (pc' := 103) h dX5_adds_102 rfl rfl ?_
                refine r_iload (pc' := 105) h dX5_adds_103 rfl rfl ?_
                refine r_iload (pc' := 107) h dX5_adds_105 rfl rfl ?_
                refine r_iconst (pc' := 108) (v := 0) h dX5_adds_107 rfl (by decide) ?_
                refine r_callV3 (pc' := 111) (M := mX5_set) h hm dX5_adds_108 rfl lX5_88 vX5_set rfl hj1.l0 hj1.o (Nat.le_of_ble_eq_true rfl) (rrb rfl) (kX5_set hj1 (ix_T ht (by omega)) (fun S6 hQ6 hR6 => ?_))
                show AW X G _ _ _ _ _ _ _ _
                refine r_iinc (pc' := 114) (v := 1) h dX5_adds_111 rfl (by decide) (by decide) rfl rfl ?_
                refine r_goto (tgt := 95) h dX5_adds_114 (by decide) ?_
                have hz : isM G N S6 (sMM Q (zer (upd (mM Q) 0 (mM Q 0 + 1)) (mM Q 0) (j + 1))) := hQ6
                exact aw_cast (by simp [nI_1]) (ih (j + 1) (by omega) (by omega) _ hz ((hr1).trans hR6))
          exact loop 7 0 (Nat.zero_le _) (by omega) _ hQ1 hR1
        · refine r_iconst (pc' := 67) (v := 1) h dX5_adds_66 rfl (by decide) ?_
          refine r_goto (tgt := 71) h dX5_adds_67 (by decide) ?_
          refine r_iconst (pc' := 72) (v := 2) h dX5_adds_71 rfl (by decide) ?_
          refine r_iload (pc' := 74) h dX5_adds_72 rfl rfl ?_
          refine r_callV3 (pc' := 77) (M := mX5_rejects) h hm dX5_adds_74 rfl lX5_84 vX5_rejects rfl hQ.l0 hQ.o (Nat.le_of_ble_eq_true rfl) (rrb rfl) (kX5_rejects1 hQ (fun S7 hQ7 hR7 => ?_))
          show AW X G _ _ _ _ _ _ _ _
          refine r_if_eq (tgt := 82) (pc' := 80) h dX5_adds_77 (by decide) rfl (fun c => absurd c (by decide)) (fun _ => ?_)
          refine r_iconst (pc' := 81) (v := 3) h dX5_adds_80 rfl (by decide) ?_
          refine r_ireturn h hm dX5_adds_81 (Nat.le_of_ble_eq_true rfl) (Nat.le_of_ble_eq_true rfl) ?_
          exact kM hk hQ7 hR7 (by first | rfl | contradiction | (simp [qAdd, mM_sI, mI_sI, mI_sM, mM_sM, c0, c1, c2, c4]; done) | (simp [qAdd, mM_sI, mI_sI, mI_sM, mM_sM, c0, c1, c2, c4]; rfl))
      · refine r_iconst (pc' := 47) (v := 1) h dX5_adds_46 rfl (by decide) ?_
        refine r_goto (tgt := 51) h dX5_adds_47 (by decide) ?_
        refine r_iconst (pc' := 52) (v := 1) h dX5_adds_51 rfl (by decide) ?_
        refine r_bipush (pc' := 54) (v := 12) h dX5_adds_52 rfl (by decide) ?_
        refine r_callV3 (pc' := 57) (M := mX5_rejects) h hm dX5_adds_54 rfl lX5_84 vX5_rejects rfl hQ.l0 hQ.o (Nat.le_of_ble_eq_true rfl) (rrb rfl) (kX5_rejects1 hQ (fun S8 hQ8 hR8 => ?_))
        show AW X G _ _ _ _ _ _ _ _
        refine r_if_ne (tgt := 80) (pc' := 60) h dX5_adds_57 (by decide) rfl (fun _ => ?_) (fun c => absurd c (by decide))
        refine r_iconst (pc' := 81) (v := 3) h dX5_adds_80 rfl (by decide) ?_
        refine r_ireturn h hm dX5_adds_81 (Nat.le_of_ble_eq_true rfl) (Nat.le_of_ble_eq_true rfl) ?_
        exact kM hk hQ8 hR8 (by first | rfl | contradiction | (simp [qAdd, mM_sI, mI_sI, mI_sM, mM_sM, c0, c1, c2]; done) | (simp [qAdd, mM_sI, mI_sI, mI_sM, mM_sM, c0, c1, c2]; rfl))
    · refine r_iconst (pc' := 21) (v := 2) h dX5_adds_20 rfl (by decide) ?_
      refine r_ireturn h hm dX5_adds_21 (Nat.le_of_ble_eq_true rfl) (Nat.le_of_ble_eq_true rfl) ?_
      exact kM hk hQ GR.rfl' (by first | rfl | contradiction | (simp [qAdd, mM_sI, mI_sI, mI_sM, mM_sM, c0, c1]; done) | (simp [qAdd, mM_sI, mI_sI, mI_sM, mM_sM, c0, c1]; rfl))
  · refine r_iconst (pc' := 9) (v := 1) h dX5_adds_8 rfl (by decide) ?_
    refine r_ireturn h hm dX5_adds_9 (Nat.le_of_ble_eq_true rfl) (Nat.le_of_ble_eq_true rfl) ?_
    exact kM hk hQ GR.rfl' (by first | rfl | contradiction | (simp [qAdd, mM_sI, mI_sI, mI_sM, mM_sM, c0]; done) | (simp [qAdd, mM_sI, mI_sI, mI_sM, mM_sM, c0]; rfl))
theorem kX5_fails {l : Launch} {G : GX} {N : Nat} {S : Nat → va_E} {K : RK} {Q : MM} (hQ : isM G N S Q) (hw : wM (mM Q)) {x : Int32} (hk : ∀ S1, isM G N S1 (qFai Q x).1 → GR S S1 → K (.inl (some (.int (qFai Q x).2))) S1) : RetK l G N mX5_fails (2, 45, 0, 0) [.ref (ad G 119), .int x] S K := by
  refine ret_enter (by decide +kernel) (Nat.le_of_ble_eq_true rfl) (fun X hX h hm => ?_)
  subst hX
  replace h : OK X G N cX5_fails RX5 2 (2, 45, 0, 0) := h
  replace hm : OKm X G N K (some .int) (2, 45, 0, 0) := hm
  show AW X G 2 N 0 [(0, _), (1, _)] [] S 0 0
  refine r_aload_n (pc' := 1) h dX5_fails_0 rfl rfl ?_
  refine r_iload_n (pc' := 2) h dX5_fails_1 rfl rfl ?_
  refine r_callV1 (pc' := 5) (M := mX5_isTurbine) h hm dX5_fails_2 rfl lX5_103 vX5_isTurbine rfl hQ.l0 hQ.o (Nat.le_of_ble_eq_true rfl) (rrb rfl) (kX5_isTurbine hQ ?_)
  show AW X G _ _ _ _ _ _ _ _
  refine r_if_neb (tgt := 10) (pc' := 8) h dX5_fails_5 (by decide) rfl (fun c0 => ?_) (fun c0 => ?_)
  · have ht := qIT_in hw c0
    refine r_aload_n (pc' := 11) h dX5_fails_10 rfl rfl ?_
    refine r_aload_n (pc' := 12) h dX5_fails_11 rfl rfl ?_
    refine r_iload_n (pc' := 13) h dX5_fails_12 rfl rfl ?_
    refine r_iconst (pc' := 14) (v := 3) h dX5_fails_13 rfl (by decide) ?_
    refine r_callV2 (pc' := 17) (M := mX5_t) h hm dX5_fails_14 rfl lX5_57 vX5_t rfl hQ.l0 hQ.o (Nat.le_of_ble_eq_true rfl) (rrb rfl) (kX5_t hQ (ix_T (w := 3) (ht) (by decide)) ?_)
    show AW X G _ _ _ _ _ _ _ _
    refine r_if_eq (tgt := 24) (pc' := 20) h dX5_fails_17 (by decide) rfl (fun c1 => ?_) (fun c1 => ?_)
    · refine r_iconst (pc' := 25) (v := 0) h dX5_fails_24 rfl (by decide) ?_
      refine r_iconst (pc' := 26) (v := 3) h dX5_fails_25 rfl (by decide) ?_
      refine r_aload_n (pc' := 27) h dX5_fails_26 rfl rfl ?_
      refine r_iload_n (pc' := 28) h dX5_fails_27 rfl rfl ?_
      refine r_iconst (pc' := 29) (v := 4) h dX5_fails_28 rfl (by decide) ?_
      refine r_callV2 (pc' := 32) (M := mX5_t) h hm dX5_fails_29 rfl lX5_57 vX5_t rfl hQ.l0 hQ.o (Nat.le_of_ble_eq_true rfl) (rrb rfl) (kX5_t hQ (ix_T (w := 4) (ht) (by decide)) ?_)
      show AW X G _ _ _ _ _ _ _ _
      refine r_callV3 (pc' := 35) (M := mX5_rejects) h hm dX5_fails_32 rfl lX5_84 vX5_rejects rfl hQ.l0 hQ.o (Nat.le_of_ble_eq_true rfl) (rrb rfl) (kX5_rejects0 hQ ?_)
      show AW X G _ _ _ _ _ _ _ _
      refine r_if_eq (tgt := 40) (pc' := 38) h dX5_fails_35 (by decide) rfl (fun _ => ?_) (fun c => absurd c (by decide))
      refine r_aload_n (pc' := 41) h dX5_fails_40 rfl rfl ?_
      refine r_iload_n (pc' := 42) h dX5_fails_41 rfl rfl ?_
      refine r_iconst (pc' := 43) (v := 3) h dX5_fails_42 rfl (by decide) ?_
      refine r_iconst (pc' := 44) (v := 1) h dX5_fails_43 rfl (by decide) ?_
      refine r_callV3 (pc' := 47) (M := mX5_set) h hm dX5_fails_44 rfl lX5_88 vX5_set rfl hQ.l0 hQ.o (Nat.le_of_ble_eq_true rfl) (rrb rfl) (kX5_set hQ (ix_T (w := 3) (ht) (by decide)) (fun S1 hQ1 hR1 => ?_))
      show AW X G _ _ _ _ _ _ _ _
      have hw1 := wM_isS hQ1 hw ht (k := 3) rfl (by decide)
      refine r_aload_n (pc' := 48) h dX5_fails_47 rfl rfl ?_
      refine r_iload_n (pc' := 49) h dX5_fails_48 rfl rfl ?_
      refine r_iconst (pc' := 50) (v := 5) h dX5_fails_49 rfl (by decide) ?_
      refine r_iconst (pc' := 51) (v := 0) h dX5_fails_50 rfl (by decide) ?_
      refine r_callV3 (pc' := 54) (M := mX5_set) h hm dX5_fails_51 rfl lX5_88 vX5_set rfl hQ1.l0 hQ1.o (Nat.le_of_ble_eq_true rfl) (rrb rfl) (kX5_set hQ1 (ix_T (w := 5) (ht) (by decide)) (fun S2 hQ2 hR2 => ?_))
      show AW X G _ _ _ _ _ _ _ _
      have hw2 := wM_isS hQ2 hw1 ht (k := 5) rfl (by decide)
      refine r_aload_n (pc' := 55) h dX5_fails_54 rfl rfl ?_
      refine r_aload_n (pc' := 56) h dX5_fails_55 rfl rfl ?_
      refine r_iconst (pc' := 57) (v := 1) h dX5_fails_56 rfl (by decide) ?_
      refine r_callV1 (pc' := 60) (M := mX5_inState) h hm dX5_fails_57 rfl lX5_107 vX5_inState rfl hQ2.l0 hQ2.o (Nat.le_of_ble_eq_true rfl) (rrb rfl) (kX5_inState hQ2 hw2 ?_)
      show AW X G _ _ _ _ _ _ _ _
      refine r_aload_n (pc' := 61) h dX5_fails_60 rfl rfl ?_
      refine r_iconst (pc' := 62) (v := 2) h dX5_fails_61 rfl (by decide) ?_
      refine r_callV1 (pc' := 65) (M := mX5_inState) h hm dX5_fails_62 rfl lX5_107 vX5_inState rfl hQ2.l0 hQ2.o (Nat.le_of_ble_eq_true rfl) (rrb rfl) (kX5_inState hQ2 hw2 ?_)
      show AW X G _ _ _ _ _ _ _ _
      refine r_iadd (pc' := 66) h dX5_fails_65 rfl ?_
      refine pX5_37 (pc' := 69) h dX5_fails_66 rfl hQ2.l0 hQ2.o (Nat.le_of_ble_eq_true rfl) ?_
      refine wM4 hQ2 (fun S3 hQ3 hR3 => ?_)
      refine r_iconst (pc' := 70) (v := 0) h dX5_fails_69 rfl (by decide) ?_
      refine r_ireturn h hm dX5_fails_70 (Nat.le_of_ble_eq_true rfl) (Nat.le_of_ble_eq_true rfl) ?_
      exact kM hk hQ3 (((hR1).trans hR2).trans hR3) (by first | rfl | contradiction | (simp [qFai, mM_sI, mI_sI, mI_sM, mM_sM, c0, c1]; done) | (simp [qFai, mM_sI, mI_sI, mI_sM, mM_sM, c0, c1]; rfl))
    · refine r_iconst (pc' := 21) (v := 1) h dX5_fails_20 rfl (by decide) ?_
      refine r_goto (tgt := 25) h dX5_fails_21 (by decide) ?_
      refine r_iconst (pc' := 26) (v := 3) h dX5_fails_25 rfl (by decide) ?_
      refine r_aload_n (pc' := 27) h dX5_fails_26 rfl rfl ?_
      refine r_iload_n (pc' := 28) h dX5_fails_27 rfl rfl ?_
      refine r_iconst (pc' := 29) (v := 4) h dX5_fails_28 rfl (by decide) ?_
      refine r_callV2 (pc' := 32) (M := mX5_t) h hm dX5_fails_29 rfl lX5_57 vX5_t rfl hQ.l0 hQ.o (Nat.le_of_ble_eq_true rfl) (rrb rfl) (kX5_t hQ (ix_T (w := 4) (ht) (by decide)) ?_)
      show AW X G _ _ _ _ _ _ _ _
      refine r_callV3 (pc' := 35) (M := mX5_rejects) h hm dX5_fails_32 rfl lX5_84 vX5_rejects rfl hQ.l0 hQ.o (Nat.le_of_ble_eq_true rfl) (rrb rfl) (kX5_rejects1 hQ (fun S4 hQ4 hR4 => ?_))
      show AW X G _ _ _ _ _ _ _ _
      refine r_if_eq (tgt := 40) (pc' := 38) h dX5_fails_35 (by decide) rfl (fun c => absurd c (by decide)) (fun _ => ?_)
      refine r_iconst (pc' := 39) (v := 3) h dX5_fails_38 rfl (by decide) ?_
      refine r_ireturn h hm dX5_fails_39 (Nat.le_of_ble_eq_true rfl) (Nat.le_of_ble_eq_true rfl) ?_
      exact kM hk hQ4 hR4 (by first | rfl | contradiction | (simp [qFai, mM_sI, mI_sI, mI_sM, mM_sM, c0, c1]; done) | (simp [qFai, mM_sI, mI_sI, mI_sM, mM_sM, c0, c1]; rfl))
  · refine r_iconst (pc' := 9) (v := 1) h dX5_fails_8 rfl (by decide) ?_
    refine r_ireturn h hm dX5_fails_9 (Nat.le_of_ble_eq_true rfl) (Nat.le_of_ble_eq_true rfl) ?_
    exact kM hk hQ GR.rfl' (by first | rfl | contradiction | (simp [qFai, mM_sI, mI_sI, mI_sM, mM_sM, c0]; done) | (simp [qFai, mM_sI, mI_sI, mI_sM, mM_sM, c0]; rfl))
theorem kX5_sends {l : Launch} {G : GX} {N : Nat} {S : Nat → va_E} {K : RK} {Q : MM} (hQ : isM G N S Q) (hw : wM (mM Q)) {x y : Int32} (hk : ∀ S1, isM G N S1 (qSnd Q x y).1 → GR S S1 → K (.inl (some (.int (qSnd Q x y).2))) S1) : RetK l G N mX5_sends (6, 136, 0, 0) [.ref (ad G 119), .int x, .int y] S K := by
  refine ret_enter (by decide +kernel) (Nat.le_of_ble_eq_true rfl) (fun X hX h hm => ?_)
  subst hX
  replace h : OK X G N cX5_sends RX5 3 (6, 136, 0, 0) := h
  replace hm : OKm X G N K (some .int) (6, 136, 0, 0) := hm
  show AW X G 3 N 0 [(0, _), (1, _), (2, _)] [] S 0 0
  refine r_aload_n (pc' := 1) h dX5_sends_0 rfl rfl ?_
  refine r_iload_n (pc' := 2) h dX5_sends_1 rfl rfl ?_
  refine r_callV1 (pc' := 5) (M := mX5_isTurbine) h hm dX5_sends_2 rfl lX5_103 vX5_isTurbine rfl hQ.l0 hQ.o (Nat.le_of_ble_eq_true rfl) (rrb rfl) (kX5_isTurbine hQ ?_)
  show AW X G _ _ _ _ _ _ _ _
  refine r_if_neb (tgt := 10) (pc' := 8) h dX5_sends_5 (by decide) rfl (fun c0 => ?_) (fun c0 => ?_)
  · have ht := qIT_in hw c0
    refine r_iload_n (pc' := 11) h dX5_sends_10 rfl rfl ?_
    refine r_iconst (pc' := 12) (v := 1) h dX5_sends_11 rfl (by decide) ?_
    refine r_bipush (pc' := 14) (v := 12) h dX5_sends_12 rfl (by decide) ?_
    refine r_callS3 (pc' := 17) (M := mX5_in) h hm dX5_sends_14 rfl lX5_53 vX5_in (Nat.le_of_ble_eq_true rfl) (rrb rfl) (kX5_in ?_)
    show AW X G _ _ _ _ _ _ _ _
    refine r_if_neb (tgt := 22) (pc' := 20) h dX5_sends_17 (by decide) rfl (fun c1 => ?_) (fun c1 => ?_)
    · refine r_aload_n (pc' := 23) h dX5_sends_22 rfl rfl ?_
      refine r_aload_n (pc' := 24) h dX5_sends_23 rfl rfl ?_
      refine r_iload_n (pc' := 25) h dX5_sends_24 rfl rfl ?_
      refine r_iconst (pc' := 26) (v := 3) h dX5_sends_25 rfl (by decide) ?_
      refine r_callV2 (pc' := 29) (M := mX5_t) h hm dX5_sends_26 rfl lX5_57 vX5_t rfl hQ.l0 hQ.o (Nat.le_of_ble_eq_true rfl) (rrb rfl) (kX5_t hQ (ix_T (w := 3) (ht) (by decide)) ?_)
      show AW X G _ _ _ _ _ _ _ _
      refine r_iconst (pc' := 30) (v := 1) h dX5_sends_29 rfl (by decide) ?_
      refine r_icmp_eq (tgt := 37) (pc' := 33) h dX5_sends_30 (by decide) rfl (fun c2 => ?_) (fun c2 => ?_)
      · refine r_iconst (pc' := 38) (v := 0) h dX5_sends_37 rfl (by decide) ?_
        refine r_iconst (pc' := 39) (v := 4) h dX5_sends_38 rfl (by decide) ?_
        refine r_aload_n (pc' := 40) h dX5_sends_39 rfl rfl ?_
        refine r_iload_n (pc' := 41) h dX5_sends_40 rfl rfl ?_
        refine r_callV1 (pc' := 44) (M := mX5_output) h hm dX5_sends_41 rfl lX5_77 vX5_output rfl hQ.l0 hQ.o (Nat.le_of_ble_eq_true rfl) (rrb rfl) (kX5_output hQ hw (ht) ?_)
        show AW X G _ _ _ _ _ _ _ _
        refine r_callV3 (pc' := 47) (M := mX5_rejects) h hm dX5_sends_44 rfl lX5_84 vX5_rejects rfl hQ.l0 hQ.o (Nat.le_of_ble_eq_true rfl) (rrb rfl) (kX5_rejects0 hQ ?_)
        show AW X G _ _ _ _ _ _ _ _
        refine r_if_ne (tgt := 76) (pc' := 50) h dX5_sends_47 (by decide) rfl (fun c => absurd c (by decide)) (fun _ => ?_)
        refine r_aload_n (pc' := 51) h dX5_sends_50 rfl rfl ?_
        refine r_aload_n (pc' := 52) h dX5_sends_51 rfl rfl ?_
        refine r_iconst (pc' := 53) (v := 2) h dX5_sends_52 rfl (by decide) ?_
        refine r_callV1 (pc' := 56) (M := mX5_inState) h hm dX5_sends_53 rfl lX5_107 vX5_inState rfl hQ.l0 hQ.o (Nat.le_of_ble_eq_true rfl) (rrb rfl) (kX5_inState hQ hw ?_)
        show AW X G _ _ _ _ _ _ _ _
        refine r_iconst (pc' := 57) (v := 2) h dX5_sends_56 rfl (by decide) ?_
        refine r_icmp_ne (tgt := 64) (pc' := 60) h dX5_sends_57 (by decide) rfl (fun c4 => ?_) (fun c4 => ?_)
        · refine r_iconst (pc' := 65) (v := 0) h dX5_sends_64 rfl (by decide) ?_
          refine r_iconst (pc' := 66) (v := 5) h dX5_sends_65 rfl (by decide) ?_
          refine r_aload_n (pc' := 67) h dX5_sends_66 rfl rfl ?_
          refine r_callV0 (pc' := 70) (M := mX5_firstInService) h hm dX5_sends_67 rfl lX5_113 vX5_firstInService rfl hQ.l0 hQ.o (Nat.le_of_ble_eq_true rfl) (rrb rfl) (kX5_firstInService hQ hw ?_)
          show AW X G _ _ _ _ _ _ _ _
          refine r_callV3 (pc' := 73) (M := mX5_rejects) h hm dX5_sends_70 rfl lX5_84 vX5_rejects rfl hQ.l0 hQ.o (Nat.le_of_ble_eq_true rfl) (rrb rfl) (kX5_rejects0 hQ ?_)
          show AW X G _ _ _ _ _ _ _ _
          refine r_if_eq (tgt := 78) (pc' := 76) h dX5_sends_73 (by decide) rfl (fun _ => ?_) (fun c => absurd c (by decide))
          refine r_aload_n (pc' := 79) h dX5_sends_78 rfl rfl ?_
          refine r_iload_n (pc' := 80) h dX5_sends_79 rfl rfl ?_
          refine r_iconst (pc' := 81) (v := 3) h dX5_sends_80 rfl (by decide) ?_
          refine r_iconst (pc' := 82) (v := 2) h dX5_sends_81 rfl (by decide) ?_
          refine r_callV3 (pc' := 85) (M := mX5_set) h hm dX5_sends_82 rfl lX5_88 vX5_set rfl hQ.l0 hQ.o (Nat.le_of_ble_eq_true rfl) (rrb rfl) (kX5_set hQ (ix_T (w := 3) (ht) (by decide)) (fun S1 hQ1 hR1 => ?_))
          show AW X G _ _ _ _ _ _ _ _
          have hw1 := wM_isS hQ1 hw ht (k := 3) rfl (by decide)
          refine r_aload_n (pc' := 86) h dX5_sends_85 rfl rfl ?_
          refine r_iload_n (pc' := 87) h dX5_sends_86 rfl rfl ?_
          refine r_iconst (pc' := 88) (v := 4) h dX5_sends_87 rfl (by decide) ?_
          refine r_iload_n (pc' := 89) h dX5_sends_88 rfl rfl ?_
          refine r_callV3 (pc' := 92) (M := mX5_set) h hm dX5_sends_89 rfl lX5_88 vX5_set rfl hQ1.l0 hQ1.o (Nat.le_of_ble_eq_true rfl) (rrb rfl) (kX5_set hQ1 (ix_T (w := 4) (ht) (by decide)) (fun S2 hQ2 hR2 => ?_))
          show AW X G _ _ _ _ _ _ _ _
          have hw2 := wM_isS hQ2 hw1 ht (k := 4) rfl (by decide)
          refine r_aload_n (pc' := 93) h dX5_sends_92 rfl rfl ?_
          refine r_iconst (pc' := 94) (v := 2) h dX5_sends_93 rfl (by decide) ?_
          refine r_aload_n (pc' := 95) h dX5_sends_94 rfl rfl ?_
          refine r_iconst (pc' := 96) (v := 2) h dX5_sends_95 rfl (by decide) ?_
          refine r_callV1 (pc' := 99) (M := mX5_inState) h hm dX5_sends_96 rfl lX5_107 vX5_inState rfl hQ2.l0 hQ2.o (Nat.le_of_ble_eq_true rfl) (rrb rfl) (kX5_inState hQ2 hw2 ?_)
          show AW X G _ _ _ _ _ _ _ _
          refine r_isub (pc' := 100) h dX5_sends_99 rfl ?_
          refine pX5_37 (pc' := 103) h dX5_sends_100 rfl hQ2.l0 hQ2.o (Nat.le_of_ble_eq_true rfl) ?_
          refine wM4 hQ2 (fun S3 hQ3 hR3 => ?_)
          refine r_iconst (pc' := 104) (v := 0) h dX5_sends_103 rfl (by decide) ?_
          refine r_ireturn h hm dX5_sends_104 (Nat.le_of_ble_eq_true rfl) (Nat.le_of_ble_eq_true rfl) ?_
          exact kM hk hQ3 (((hR1).trans hR2).trans hR3) (by first | rfl | contradiction | (simp [qSnd, mM_sI, mI_sI, mI_sM, mM_sM, c0, c1, c2, c4]; done) | (simp [qSnd, mM_sI, mI_sI, mI_sM, mM_sM, c0, c1, c2, c4]; rfl))
        · refine r_iconst (pc' := 61) (v := 1) h dX5_sends_60 rfl (by decide) ?_
          refine r_goto (tgt := 65) h dX5_sends_61 (by decide) ?_
          refine r_iconst (pc' := 66) (v := 5) h dX5_sends_65 rfl (by decide) ?_
          refine r_aload_n (pc' := 67) h dX5_sends_66 rfl rfl ?_
          refine r_callV0 (pc' := 70) (M := mX5_firstInService) h hm dX5_sends_67 rfl lX5_113 vX5_firstInService rfl hQ.l0 hQ.o (Nat.le_of_ble_eq_true rfl) (rrb rfl) (kX5_firstInService hQ hw ?_)
          show AW X G _ _ _ _ _ _ _ _
          refine r_callV3 (pc' := 73) (M := mX5_rejects) h hm dX5_sends_70 rfl lX5_84 vX5_rejects rfl hQ.l0 hQ.o (Nat.le_of_ble_eq_true rfl) (rrb rfl) (kX5_rejects1 hQ (fun S4 hQ4 hR4 => ?_))
          show AW X G _ _ _ _ _ _ _ _
          refine r_if_eq (tgt := 78) (pc' := 76) h dX5_sends_73 (by decide) rfl (fun c => absurd c (by decide)) (fun _ => ?_)
          refine r_iconst (pc' := 77) (v := 3) h dX5_sends_76 rfl (by decide) ?_
          refine r_ireturn h hm dX5_sends_77 (Nat.le_of_ble_eq_true rfl) (Nat.le_of_ble_eq_true rfl) ?_
          exact kM hk hQ4 hR4 (by first | rfl | contradiction | (simp [qSnd, mM_sI, mI_sI, mI_sM, mM_sM, c0, c1, c2, c4]; done) | (simp [qSnd, mM_sI, mI_sI, mI_sM, mM_sM, c0, c1, c2, c4]; rfl))
      · refine r_iconst (pc' := 34) (v := 1) h dX5_sends_33 rfl (by decide) ?_
        refine r_goto (tgt := 38) h dX5_sends_34 (by decide) ?_
        refine r_iconst (pc' := 39) (v := 4) h dX5_sends_38 rfl (by decide) ?_
        refine r_aload_n (pc' := 40) h dX5_sends_39 rfl rfl ?_
        refine r_iload_n (pc' := 41) h dX5_sends_40 rfl rfl ?_
        refine r_callV1 (pc' := 44) (M := mX5_output) h hm dX5_sends_41 rfl lX5_77 vX5_output rfl hQ.l0 hQ.o (Nat.le_of_ble_eq_true rfl) (rrb rfl) (kX5_output hQ hw (ht) ?_)
        show AW X G _ _ _ _ _ _ _ _
        refine r_callV3 (pc' := 47) (M := mX5_rejects) h hm dX5_sends_44 rfl lX5_84 vX5_rejects rfl hQ.l0 hQ.o (Nat.le_of_ble_eq_true rfl) (rrb rfl) (kX5_rejects1 hQ (fun S5 hQ5 hR5 => ?_))
        show AW X G _ _ _ _ _ _ _ _
        refine r_if_ne (tgt := 76) (pc' := 50) h dX5_sends_47 (by decide) rfl (fun _ => ?_) (fun c => absurd c (by decide))
        refine r_iconst (pc' := 77) (v := 3) h dX5_sends_76 rfl (by decide) ?_
        refine r_ireturn h hm dX5_sends_77 (Nat.le_of_ble_eq_true rfl) (Nat.le_of_ble_eq_true rfl) ?_
        exact kM hk hQ5 hR5 (by first | rfl | contradiction | (simp [qSnd, mM_sI, mI_sI, mI_sM, mM_sM, c0, c1, c2]; done) | (simp [qSnd, mM_sI, mI_sI, mI_sM, mM_sM, c0, c1, c2]; rfl))
    · refine r_iconst (pc' := 21) (v := 2) h dX5_sends_20 rfl (by decide) ?_
      refine r_ireturn h hm dX5_sends_21 (Nat.le_of_ble_eq_true rfl) (Nat.le_of_ble_eq_true rfl) ?_
      exact kM hk hQ GR.rfl' (by first | rfl | contradiction | (simp [qSnd, mM_sI, mI_sI, mI_sM, mM_sM, c0, c1]; done) | (simp [qSnd, mM_sI, mI_sI, mI_sM, mM_sM, c0, c1]; rfl))
  · refine r_iconst (pc' := 9) (v := 1) h dX5_sends_8 rfl (by decide) ?_
    refine r_ireturn h hm dX5_sends_9 (Nat.le_of_ble_eq_true rfl) (Nat.le_of_ble_eq_true rfl) ?_
    exact kM hk hQ GR.rfl' (by first | rfl | contradiction | (simp [qSnd, mM_sI, mI_sI, mI_sM, mM_sM, c0]; done) | (simp [qSnd, mM_sI, mI_sI, mI_sM, mM_sM, c0]; rfl))
theorem kX5_recalls {l : Launch} {G : GX} {N : Nat} {S : Nat → va_E} {K : RK} {Q : MM} (hQ : isM G N S Q) (hw : wM (mM Q)) {x : Int32} (hk : ∀ S1, isM G N S1 (qRcl Q x).1 → GR S S1 → K (.inl (some (.int (qRcl Q x).2))) S1) : RetK l G N mX5_recalls (6, 136, 0, 0) [.ref (ad G 119), .int x] S K := by
  refine ret_enter (by decide +kernel) (Nat.le_of_ble_eq_true rfl) (fun X hX h hm => ?_)
  subst hX
  replace h : OK X G N cX5_recalls RX5 2 (6, 136, 0, 0) := h
  replace hm : OKm X G N K (some .int) (6, 136, 0, 0) := hm
  show AW X G 2 N 0 [(0, _), (1, _)] [] S 0 0
  refine r_aload_n (pc' := 1) h dX5_recalls_0 rfl rfl ?_
  refine r_iload_n (pc' := 2) h dX5_recalls_1 rfl rfl ?_
  refine r_callV1 (pc' := 5) (M := mX5_isTurbine) h hm dX5_recalls_2 rfl lX5_103 vX5_isTurbine rfl hQ.l0 hQ.o (Nat.le_of_ble_eq_true rfl) (rrb rfl) (kX5_isTurbine hQ ?_)
  show AW X G _ _ _ _ _ _ _ _
  refine r_if_neb (tgt := 10) (pc' := 8) h dX5_recalls_5 (by decide) rfl (fun c0 => ?_) (fun c0 => ?_)
  · have ht := qIT_in hw c0
    refine r_aload_n (pc' := 11) h dX5_recalls_10 rfl rfl ?_
    refine r_aload_n (pc' := 12) h dX5_recalls_11 rfl rfl ?_
    refine r_iload_n (pc' := 13) h dX5_recalls_12 rfl rfl ?_
    refine r_iconst (pc' := 14) (v := 3) h dX5_recalls_13 rfl (by decide) ?_
    refine r_callV2 (pc' := 17) (M := mX5_t) h hm dX5_recalls_14 rfl lX5_57 vX5_t rfl hQ.l0 hQ.o (Nat.le_of_ble_eq_true rfl) (rrb rfl) (kX5_t hQ (ix_T (w := 3) (ht) (by decide)) ?_)
    show AW X G _ _ _ _ _ _ _ _
    refine r_iconst (pc' := 18) (v := 2) h dX5_recalls_17 rfl (by decide) ?_
    refine r_icmp_eq (tgt := 25) (pc' := 21) h dX5_recalls_18 (by decide) rfl (fun c1 => ?_) (fun c1 => ?_)
    · refine r_iconst (pc' := 26) (v := 0) h dX5_recalls_25 rfl (by decide) ?_
      refine r_bipush (pc' := 28) (v := 6) h dX5_recalls_26 rfl (by decide) ?_
      refine r_aload_n (pc' := 29) h dX5_recalls_28 rfl rfl ?_
      refine r_iload_n (pc' := 30) h dX5_recalls_29 rfl rfl ?_
      refine r_callV1 (pc' := 33) (M := mX5_output) h hm dX5_recalls_30 rfl lX5_77 vX5_output rfl hQ.l0 hQ.o (Nat.le_of_ble_eq_true rfl) (rrb rfl) (kX5_output hQ hw (ht) ?_)
      show AW X G _ _ _ _ _ _ _ _
      refine r_callV3 (pc' := 36) (M := mX5_rejects) h hm dX5_recalls_33 rfl lX5_84 vX5_rejects rfl hQ.l0 hQ.o (Nat.le_of_ble_eq_true rfl) (rrb rfl) (kX5_rejects0 hQ ?_)
      show AW X G _ _ _ _ _ _ _ _
      refine r_if_eq (tgt := 41) (pc' := 39) h dX5_recalls_36 (by decide) rfl (fun _ => ?_) (fun c => absurd c (by decide))
      refine r_aload_n (pc' := 42) h dX5_recalls_41 rfl rfl ?_
      refine r_aload_n (pc' := 43) h dX5_recalls_42 rfl rfl ?_
      refine r_iload_n (pc' := 44) h dX5_recalls_43 rfl rfl ?_
      refine r_iconst (pc' := 45) (v := 4) h dX5_recalls_44 rfl (by decide) ?_
      refine r_callV2 (pc' := 48) (M := mX5_t) h hm dX5_recalls_45 rfl lX5_57 vX5_t rfl hQ.l0 hQ.o (Nat.le_of_ble_eq_true rfl) (rrb rfl) (kX5_t hQ (ix_T (w := 4) (ht) (by decide)) ?_)
      show AW X G _ _ _ _ _ _ _ _
      refine pX5_37 (pc' := 51) h dX5_recalls_48 rfl hQ.l0 hQ.o (Nat.le_of_ble_eq_true rfl) ?_
      refine wM4 hQ (fun S1 hQ1 hR1 => ?_)
      refine r_aload_n (pc' := 52) h dX5_recalls_51 rfl rfl ?_
      refine r_iload_n (pc' := 53) h dX5_recalls_52 rfl rfl ?_
      refine r_iconst (pc' := 54) (v := 3) h dX5_recalls_53 rfl (by decide) ?_
      refine r_iconst (pc' := 55) (v := 1) h dX5_recalls_54 rfl (by decide) ?_
      refine r_callV3 (pc' := 58) (M := mX5_set) h hm dX5_recalls_55 rfl lX5_88 vX5_set rfl hQ1.l0 hQ1.o (Nat.le_of_ble_eq_true rfl) (rrb rfl) (kX5_set hQ1 (ix_T (w := 3) (ht) (by decide)) (fun S2 hQ2 hR2 => ?_))
      show AW X G _ _ _ _ _ _ _ _
      have hw2 := wM_isS hQ2 hw ht (k := 3) rfl (by decide)
      refine r_aload_n (pc' := 59) h dX5_recalls_58 rfl rfl ?_
      refine r_iload_n (pc' := 60) h dX5_recalls_59 rfl rfl ?_
      refine r_iconst (pc' := 61) (v := 4) h dX5_recalls_60 rfl (by decide) ?_
      refine r_iconst (pc' := 62) (v := 0) h dX5_recalls_61 rfl (by decide) ?_
      refine r_callV3 (pc' := 65) (M := mX5_set) h hm dX5_recalls_62 rfl lX5_88 vX5_set rfl hQ2.l0 hQ2.o (Nat.le_of_ble_eq_true rfl) (rrb rfl) (kX5_set hQ2 (ix_T (w := 4) (ht) (by decide)) (fun S3 hQ3 hR3 => ?_))
      show AW X G _ _ _ _ _ _ _ _
      have hw3 := wM_isS hQ3 hw2 ht (k := 4) rfl (by decide)
      refine r_iconst (pc' := 66) (v := 0) h dX5_recalls_65 rfl (by decide) ?_
      refine r_ireturn h hm dX5_recalls_66 (Nat.le_of_ble_eq_true rfl) (Nat.le_of_ble_eq_true rfl) ?_
      exact kM hk hQ3 (((hR1).trans hR2).trans hR3) (by first | rfl | contradiction | (simp [qRcl, mM_sI, mI_sI, mI_sM, mM_sM, c0, c1]; done) | (simp [qRcl, mM_sI, mI_sI, mI_sM, mM_sM, c0, c1]; rfl))
    · refine r_iconst (pc' := 22) (v := 1) h dX5_recalls_21 rfl (by decide) ?_
      refine r_goto (tgt := 26) h dX5_recalls_22 (by decide) ?_
      refine r_bipush (pc' := 28) (v := 6) h dX5_recalls_26 rfl (by decide) ?_
      refine r_aload_n (pc' := 29) h dX5_recalls_28 rfl rfl ?_
      refine r_iload_n (pc' := 30) h dX5_recalls_29 rfl rfl ?_
      refine r_callV1 (pc' := 33) (M := mX5_output) h hm dX5_recalls_30 rfl lX5_77 vX5_output rfl hQ.l0 hQ.o (Nat.le_of_ble_eq_true rfl) (rrb rfl) (kX5_output hQ hw (ht) ?_)
      show AW X G _ _ _ _ _ _ _ _
      refine r_callV3 (pc' := 36) (M := mX5_rejects) h hm dX5_recalls_33 rfl lX5_84 vX5_rejects rfl hQ.l0 hQ.o (Nat.le_of_ble_eq_true rfl) (rrb rfl) (kX5_rejects1 hQ (fun S4 hQ4 hR4 => ?_))
      show AW X G _ _ _ _ _ _ _ _
      refine r_if_eq (tgt := 41) (pc' := 39) h dX5_recalls_36 (by decide) rfl (fun c => absurd c (by decide)) (fun _ => ?_)
      refine r_iconst (pc' := 40) (v := 3) h dX5_recalls_39 rfl (by decide) ?_
      refine r_ireturn h hm dX5_recalls_40 (Nat.le_of_ble_eq_true rfl) (Nat.le_of_ble_eq_true rfl) ?_
      exact kM hk hQ4 hR4 (by first | rfl | contradiction | (simp [qRcl, mM_sI, mI_sI, mI_sM, mM_sM, c0, c1]; done) | (simp [qRcl, mM_sI, mI_sI, mI_sM, mM_sM, c0, c1]; rfl))
  · refine r_iconst (pc' := 9) (v := 1) h dX5_recalls_8 rfl (by decide) ?_
    refine r_ireturn h hm dX5_recalls_9 (Nat.le_of_ble_eq_true rfl) (Nat.le_of_ble_eq_true rfl) ?_
    exact kM hk hQ GR.rfl' (by first | rfl | contradiction | (simp [qRcl, mM_sI, mI_sI, mI_sM, mM_sM, c0]; done) | (simp [qRcl, mM_sI, mI_sI, mI_sM, mM_sM, c0]; rfl))
theorem kX5_curtails {l : Launch} {G : GX} {N : Nat} {S : Nat → va_E} {K : RK} {Q : MM} (hQ : isM G N S Q) (hw : wM (mM Q)) {x y : Int32} (hk : ∀ S1, isM G N S1 (qCur Q x y).1 → GR S S1 → K (.inl (some (.int (qCur Q x y).2))) S1) : RetK l G N mX5_curtails (6, 136, 0, 0) [.ref (ad G 119), .int x, .int y] S K := by
  refine ret_enter (by decide +kernel) (Nat.le_of_ble_eq_true rfl) (fun X hX h hm => ?_)
  subst hX
  replace h : OK X G N cX5_curtails RX5 3 (6, 136, 0, 0) := h
  replace hm : OKm X G N K (some .int) (6, 136, 0, 0) := hm
  show AW X G 3 N 0 [(0, _), (1, _), (2, _)] [] S 0 0
  refine r_aload_n (pc' := 1) h dX5_curtails_0 rfl rfl ?_
  refine r_iload_n (pc' := 2) h dX5_curtails_1 rfl rfl ?_
  refine r_callV1 (pc' := 5) (M := mX5_isTurbine) h hm dX5_curtails_2 rfl lX5_103 vX5_isTurbine rfl hQ.l0 hQ.o (Nat.le_of_ble_eq_true rfl) (rrb rfl) (kX5_isTurbine hQ ?_)
  show AW X G _ _ _ _ _ _ _ _
  refine r_if_neb (tgt := 10) (pc' := 8) h dX5_curtails_5 (by decide) rfl (fun c0 => ?_) (fun c0 => ?_)
  · have ht := qIT_in hw c0
    refine r_iload_n (pc' := 11) h dX5_curtails_10 rfl rfl ?_
    refine r_iconst (pc' := 12) (v := 0) h dX5_curtails_11 rfl (by decide) ?_
    refine r_bipush (pc' := 14) (v := 90) h dX5_curtails_12 rfl (by decide) ?_
    refine r_callS3 (pc' := 17) (M := mX5_in) h hm dX5_curtails_14 rfl lX5_53 vX5_in (Nat.le_of_ble_eq_true rfl) (rrb rfl) (kX5_in ?_)
    show AW X G _ _ _ _ _ _ _ _
    refine r_if_neb (tgt := 22) (pc' := 20) h dX5_curtails_17 (by decide) rfl (fun c1 => ?_) (fun c1 => ?_)
    · refine r_aload_n (pc' := 23) h dX5_curtails_22 rfl rfl ?_
      refine r_aload_n (pc' := 24) h dX5_curtails_23 rfl rfl ?_
      refine r_iload_n (pc' := 25) h dX5_curtails_24 rfl rfl ?_
      refine r_iconst (pc' := 26) (v := 3) h dX5_curtails_25 rfl (by decide) ?_
      refine r_callV2 (pc' := 29) (M := mX5_t) h hm dX5_curtails_26 rfl lX5_57 vX5_t rfl hQ.l0 hQ.o (Nat.le_of_ble_eq_true rfl) (rrb rfl) (kX5_t hQ (ix_T (w := 3) (ht) (by decide)) ?_)
      show AW X G _ _ _ _ _ _ _ _
      refine r_if_eq (tgt := 36) (pc' := 32) h dX5_curtails_29 (by decide) rfl (fun c2 => ?_) (fun c2 => ?_)
      · refine r_iconst (pc' := 37) (v := 0) h dX5_curtails_36 rfl (by decide) ?_
        refine r_iconst (pc' := 38) (v := 3) h dX5_curtails_37 rfl (by decide) ?_
        refine r_aload_n (pc' := 39) h dX5_curtails_38 rfl rfl ?_
        refine r_iload_n (pc' := 40) h dX5_curtails_39 rfl rfl ?_
        refine r_iconst (pc' := 41) (v := 4) h dX5_curtails_40 rfl (by decide) ?_
        refine r_callV2 (pc' := 44) (M := mX5_t) h hm dX5_curtails_41 rfl lX5_57 vX5_t rfl hQ.l0 hQ.o (Nat.le_of_ble_eq_true rfl) (rrb rfl) (kX5_t hQ (ix_T (w := 4) (ht) (by decide)) ?_)
        show AW X G _ _ _ _ _ _ _ _
        refine r_callV3 (pc' := 47) (M := mX5_rejects) h hm dX5_curtails_44 rfl lX5_84 vX5_rejects rfl hQ.l0 hQ.o (Nat.le_of_ble_eq_true rfl) (rrb rfl) (kX5_rejects0 hQ ?_)
        show AW X G _ _ _ _ _ _ _ _
        refine r_if_eq (tgt := 52) (pc' := 50) h dX5_curtails_47 (by decide) rfl (fun _ => ?_) (fun c => absurd c (by decide))
        refine r_aload_n (pc' := 53) h dX5_curtails_52 rfl rfl ?_
        refine r_iload_n (pc' := 54) h dX5_curtails_53 rfl rfl ?_
        refine r_iconst (pc' := 55) (v := 5) h dX5_curtails_54 rfl (by decide) ?_
        refine r_iload_n (pc' := 56) h dX5_curtails_55 rfl rfl ?_
        refine r_iconst (pc' := 57) (v := 1) h dX5_curtails_56 rfl (by decide) ?_
        refine r_iadd (pc' := 58) h dX5_curtails_57 rfl ?_
        refine r_callV3 (pc' := 61) (M := mX5_set) h hm dX5_curtails_58 rfl lX5_88 vX5_set rfl hQ.l0 hQ.o (Nat.le_of_ble_eq_true rfl) (rrb rfl) (kX5_set hQ (ix_T (w := 5) (ht) (by decide)) (fun S1 hQ1 hR1 => ?_))
        show AW X G _ _ _ _ _ _ _ _
        have hw1 := wM_isS hQ1 hw ht (k := 5) rfl (by decide)
        refine r_aload_n (pc' := 62) h dX5_curtails_61 rfl rfl ?_
        refine r_aload_n (pc' := 63) h dX5_curtails_62 rfl rfl ?_
        refine r_iload_n (pc' := 64) h dX5_curtails_63 rfl rfl ?_
        refine r_callV1 (pc' := 67) (M := mX5_output) h hm dX5_curtails_64 rfl lX5_77 vX5_output rfl hQ1.l0 hQ1.o (Nat.le_of_ble_eq_true rfl) (rrb rfl) (kX5_output hQ1 hw1 (ht) ?_)
        show AW X G _ _ _ _ _ _ _ _
        refine pX5_37 (pc' := 70) h dX5_curtails_67 rfl hQ1.l0 hQ1.o (Nat.le_of_ble_eq_true rfl) ?_
        refine wM4 hQ1 (fun S2 hQ2 hR2 => ?_)
        refine r_iconst (pc' := 71) (v := 0) h dX5_curtails_70 rfl (by decide) ?_
        refine r_ireturn h hm dX5_curtails_71 (Nat.le_of_ble_eq_true rfl) (Nat.le_of_ble_eq_true rfl) ?_
        exact kM hk hQ2 ((hR1).trans hR2) (by first | rfl | contradiction | (simp [qCur, mM_sI, mI_sI, mI_sM, mM_sM, c0, c1, c2]; done) | (simp [qCur, mM_sI, mI_sI, mI_sM, mM_sM, c0, c1, c2]; rfl))
      · refine r_iconst (pc' := 33) (v := 1) h dX5_curtails_32 rfl (by decide) ?_
        refine r_goto (tgt := 37) h dX5_curtails_33 (by decide) ?_
        refine r_iconst (pc' := 38) (v := 3) h dX5_curtails_37 rfl (by decide) ?_
        refine r_aload_n (pc' := 39) h dX5_curtails_38 rfl rfl ?_
        refine r_iload_n (pc' := 40) h dX5_curtails_39 rfl rfl ?_
        refine r_iconst (pc' := 41) (v := 4) h dX5_curtails_40 rfl (by decide) ?_
        refine r_callV2 (pc' := 44) (M := mX5_t) h hm dX5_curtails_41 rfl lX5_57 vX5_t rfl hQ.l0 hQ.o (Nat.le_of_ble_eq_true rfl) (rrb rfl) (kX5_t hQ (ix_T (w := 4) (ht) (by decide)) ?_)
        show AW X G _ _ _ _ _ _ _ _
        refine r_callV3 (pc' := 47) (M := mX5_rejects) h hm dX5_curtails_44 rfl lX5_84 vX5_rejects rfl hQ.l0 hQ.o (Nat.le_of_ble_eq_true rfl) (rrb rfl) (kX5_rejects1 hQ (fun S3 hQ3 hR3 => ?_))
        show AW X G _ _ _ _ _ _ _ _
        refine r_if_eq (tgt := 52) (pc' := 50) h dX5_curtails_47 (by decide) rfl (fun c => absurd c (by decide)) (fun _ => ?_)
        refine r_iconst (pc' := 51) (v := 3) h dX5_curtails_50 rfl (by decide) ?_
        refine r_ireturn h hm dX5_curtails_51 (Nat.le_of_ble_eq_true rfl) (Nat.le_of_ble_eq_true rfl) ?_
        exact kM hk hQ3 hR3 (by first | rfl | contradiction | (simp [qCur, mM_sI, mI_sI, mI_sM, mM_sM, c0, c1, c2]; done) | (simp [qCur, mM_sI, mI_sI, mI_sM, mM_sM, c0, c1, c2]; rfl))
    · refine r_iconst (pc' := 21) (v := 2) h dX5_curtails_20 rfl (by decide) ?_
      refine r_ireturn h hm dX5_curtails_21 (Nat.le_of_ble_eq_true rfl) (Nat.le_of_ble_eq_true rfl) ?_
      exact kM hk hQ GR.rfl' (by first | rfl | contradiction | (simp [qCur, mM_sI, mI_sI, mI_sM, mM_sM, c0, c1]; done) | (simp [qCur, mM_sI, mI_sI, mI_sM, mM_sM, c0, c1]; rfl))
  · refine r_iconst (pc' := 9) (v := 1) h dX5_curtails_8 rfl (by decide) ?_
    refine r_ireturn h hm dX5_curtails_9 (Nat.le_of_ble_eq_true rfl) (Nat.le_of_ble_eq_true rfl) ?_
    exact kM hk hQ GR.rfl' (by first | rfl | contradiction | (simp [qCur, mM_sI, mI_sI, mI_sM, mM_sM, c0]; done) | (simp [qCur, mM_sI, mI_sI, mI_sM, mM_sM, c0]; rfl))
theorem kX5_releases {l : Launch} {G : GX} {N : Nat} {S : Nat → va_E} {K : RK} {Q : MM} (hQ : isM G N S Q) (hw : wM (mM Q)) {x : Int32} (hk : ∀ S1, isM G N S1 (qRel Q x).1 → GR S S1 → K (.inl (some (.int (qRel Q x).2))) S1) : RetK l G N mX5_releases (6, 136, 0, 0) [.ref (ad G 119), .int x] S K := by
  refine ret_enter (by decide +kernel) (Nat.le_of_ble_eq_true rfl) (fun X hX h hm => ?_)
  subst hX
  replace h : OK X G N cX5_releases RX5 2 (6, 136, 0, 0) := h
  replace hm : OKm X G N K (some .int) (6, 136, 0, 0) := hm
  show AW X G 2 N 0 [(0, _), (1, _)] [] S 0 0
  refine r_aload_n (pc' := 1) h dX5_releases_0 rfl rfl ?_
  refine r_iload_n (pc' := 2) h dX5_releases_1 rfl rfl ?_
  refine r_callV1 (pc' := 5) (M := mX5_isTurbine) h hm dX5_releases_2 rfl lX5_103 vX5_isTurbine rfl hQ.l0 hQ.o (Nat.le_of_ble_eq_true rfl) (rrb rfl) (kX5_isTurbine hQ ?_)
  show AW X G _ _ _ _ _ _ _ _
  refine r_if_neb (tgt := 10) (pc' := 8) h dX5_releases_5 (by decide) rfl (fun c0 => ?_) (fun c0 => ?_)
  · have ht := qIT_in hw c0
    refine r_aload_n (pc' := 11) h dX5_releases_10 rfl rfl ?_
    refine r_aload_n (pc' := 12) h dX5_releases_11 rfl rfl ?_
    refine r_iload_n (pc' := 13) h dX5_releases_12 rfl rfl ?_
    refine r_iconst (pc' := 14) (v := 3) h dX5_releases_13 rfl (by decide) ?_
    refine r_callV2 (pc' := 17) (M := mX5_t) h hm dX5_releases_14 rfl lX5_57 vX5_t rfl hQ.l0 hQ.o (Nat.le_of_ble_eq_true rfl) (rrb rfl) (kX5_t hQ (ix_T (w := 3) (ht) (by decide)) ?_)
    show AW X G _ _ _ _ _ _ _ _
    refine r_if_eq (tgt := 24) (pc' := 20) h dX5_releases_17 (by decide) rfl (fun c1 => ?_) (fun c1 => ?_)
    · refine r_iconst (pc' := 25) (v := 0) h dX5_releases_24 rfl (by decide) ?_
      refine r_iconst (pc' := 26) (v := 3) h dX5_releases_25 rfl (by decide) ?_
      refine r_aload_n (pc' := 27) h dX5_releases_26 rfl rfl ?_
      refine r_iload_n (pc' := 28) h dX5_releases_27 rfl rfl ?_
      refine r_iconst (pc' := 29) (v := 4) h dX5_releases_28 rfl (by decide) ?_
      refine r_callV2 (pc' := 32) (M := mX5_t) h hm dX5_releases_29 rfl lX5_57 vX5_t rfl hQ.l0 hQ.o (Nat.le_of_ble_eq_true rfl) (rrb rfl) (kX5_t hQ (ix_T (w := 4) (ht) (by decide)) ?_)
      show AW X G _ _ _ _ _ _ _ _
      refine r_callV3 (pc' := 35) (M := mX5_rejects) h hm dX5_releases_32 rfl lX5_84 vX5_rejects rfl hQ.l0 hQ.o (Nat.le_of_ble_eq_true rfl) (rrb rfl) (kX5_rejects0 hQ ?_)
      show AW X G _ _ _ _ _ _ _ _
      refine r_if_ne (tgt := 66) (pc' := 38) h dX5_releases_35 (by decide) rfl (fun c => absurd c (by decide)) (fun _ => ?_)
      refine r_aload_n (pc' := 39) h dX5_releases_38 rfl rfl ?_
      refine r_aload_n (pc' := 40) h dX5_releases_39 rfl rfl ?_
      refine r_iload_n (pc' := 41) h dX5_releases_40 rfl rfl ?_
      refine r_iconst (pc' := 42) (v := 5) h dX5_releases_41 rfl (by decide) ?_
      refine r_callV2 (pc' := 45) (M := mX5_t) h hm dX5_releases_42 rfl lX5_57 vX5_t rfl hQ.l0 hQ.o (Nat.le_of_ble_eq_true rfl) (rrb rfl) (kX5_t hQ (ix_T (w := 5) (ht) (by decide)) ?_)
      show AW X G _ _ _ _ _ _ _ _
      refine r_if_ne (tgt := 52) (pc' := 48) h dX5_releases_45 (by decide) rfl (fun c3 => ?_) (fun c3 => ?_)
      · refine r_iconst (pc' := 53) (v := 0) h dX5_releases_52 rfl (by decide) ?_
        refine r_bipush (pc' := 55) (v := 7) h dX5_releases_53 rfl (by decide) ?_
        refine r_aload_n (pc' := 56) h dX5_releases_55 rfl rfl ?_
        refine r_iload_n (pc' := 57) h dX5_releases_56 rfl rfl ?_
        refine r_callV1 (pc' := 60) (M := mX5_output) h hm dX5_releases_57 rfl lX5_77 vX5_output rfl hQ.l0 hQ.o (Nat.le_of_ble_eq_true rfl) (rrb rfl) (kX5_output hQ hw (ht) ?_)
        show AW X G _ _ _ _ _ _ _ _
        refine r_callV3 (pc' := 63) (M := mX5_rejects) h hm dX5_releases_60 rfl lX5_84 vX5_rejects rfl hQ.l0 hQ.o (Nat.le_of_ble_eq_true rfl) (rrb rfl) (kX5_rejects0 hQ ?_)
        show AW X G _ _ _ _ _ _ _ _
        refine r_if_eq (tgt := 68) (pc' := 66) h dX5_releases_63 (by decide) rfl (fun _ => ?_) (fun c => absurd c (by decide))
        refine r_aload_n (pc' := 69) h dX5_releases_68 rfl rfl ?_
        refine r_iload_n (pc' := 70) h dX5_releases_69 rfl rfl ?_
        refine r_iconst (pc' := 71) (v := 5) h dX5_releases_70 rfl (by decide) ?_
        refine r_iconst (pc' := 72) (v := 0) h dX5_releases_71 rfl (by decide) ?_
        refine r_callV3 (pc' := 75) (M := mX5_set) h hm dX5_releases_72 rfl lX5_88 vX5_set rfl hQ.l0 hQ.o (Nat.le_of_ble_eq_true rfl) (rrb rfl) (kX5_set hQ (ix_T (w := 5) (ht) (by decide)) (fun S1 hQ1 hR1 => ?_))
        show AW X G _ _ _ _ _ _ _ _
        have hw1 := wM_isS hQ1 hw ht (k := 5) rfl (by decide)
        refine r_aload_n (pc' := 76) h dX5_releases_75 rfl rfl ?_
        refine r_aload_n (pc' := 77) h dX5_releases_76 rfl rfl ?_
        refine r_iload_n (pc' := 78) h dX5_releases_77 rfl rfl ?_
        refine r_callV1 (pc' := 81) (M := mX5_output) h hm dX5_releases_78 rfl lX5_77 vX5_output rfl hQ1.l0 hQ1.o (Nat.le_of_ble_eq_true rfl) (rrb rfl) (kX5_output hQ1 hw1 (ht) ?_)
        show AW X G _ _ _ _ _ _ _ _
        refine pX5_37 (pc' := 84) h dX5_releases_81 rfl hQ1.l0 hQ1.o (Nat.le_of_ble_eq_true rfl) ?_
        refine wM4 hQ1 (fun S2 hQ2 hR2 => ?_)
        refine r_iconst (pc' := 85) (v := 0) h dX5_releases_84 rfl (by decide) ?_
        refine r_ireturn h hm dX5_releases_85 (Nat.le_of_ble_eq_true rfl) (Nat.le_of_ble_eq_true rfl) ?_
        exact kM hk hQ2 ((hR1).trans hR2) (by first | rfl | contradiction | (simp [qRel, mM_sI, mI_sI, mI_sM, mM_sM, c0, c1, c3]; done) | (simp [qRel, mM_sI, mI_sI, mI_sM, mM_sM, c0, c1, c3]; rfl))
      · refine r_iconst (pc' := 49) (v := 1) h dX5_releases_48 rfl (by decide) ?_
        refine r_goto (tgt := 53) h dX5_releases_49 (by decide) ?_
        refine r_bipush (pc' := 55) (v := 7) h dX5_releases_53 rfl (by decide) ?_
        refine r_aload_n (pc' := 56) h dX5_releases_55 rfl rfl ?_
        refine r_iload_n (pc' := 57) h dX5_releases_56 rfl rfl ?_
        refine r_callV1 (pc' := 60) (M := mX5_output) h hm dX5_releases_57 rfl lX5_77 vX5_output rfl hQ.l0 hQ.o (Nat.le_of_ble_eq_true rfl) (rrb rfl) (kX5_output hQ hw (ht) ?_)
        show AW X G _ _ _ _ _ _ _ _
        refine r_callV3 (pc' := 63) (M := mX5_rejects) h hm dX5_releases_60 rfl lX5_84 vX5_rejects rfl hQ.l0 hQ.o (Nat.le_of_ble_eq_true rfl) (rrb rfl) (kX5_rejects1 hQ (fun S3 hQ3 hR3 => ?_))
        show AW X G _ _ _ _ _ _ _ _
        refine r_if_eq (tgt := 68) (pc' := 66) h dX5_releases_63 (by decide) rfl (fun c => absurd c (by decide)) (fun _ => ?_)
        refine r_iconst (pc' := 67) (v := 3) h dX5_releases_66 rfl (by decide) ?_
        refine r_ireturn h hm dX5_releases_67 (Nat.le_of_ble_eq_true rfl) (Nat.le_of_ble_eq_true rfl) ?_
        exact kM hk hQ3 hR3 (by first | rfl | contradiction | (simp [qRel, mM_sI, mI_sI, mI_sM, mM_sM, c0, c1, c3]; done) | (simp [qRel, mM_sI, mI_sI, mI_sM, mM_sM, c0, c1, c3]; rfl))
    · refine r_iconst (pc' := 21) (v := 1) h dX5_releases_20 rfl (by decide) ?_
      refine r_goto (tgt := 25) h dX5_releases_21 (by decide) ?_
      refine r_iconst (pc' := 26) (v := 3) h dX5_releases_25 rfl (by decide) ?_
      refine r_aload_n (pc' := 27) h dX5_releases_26 rfl rfl ?_
      refine r_iload_n (pc' := 28) h dX5_releases_27 rfl rfl ?_
      refine r_iconst (pc' := 29) (v := 4) h dX5_releases_28 rfl (by decide) ?_
      refine r_callV2 (pc' := 32) (M := mX5_t) h hm dX5_releases_29 rfl lX5_57 vX5_t rfl hQ.l0 hQ.o (Nat.le_of_ble_eq_true rfl) (rrb rfl) (kX5_t hQ (ix_T (w := 4) (ht) (by decide)) ?_)
      show AW X G _ _ _ _ _ _ _ _
      refine r_callV3 (pc' := 35) (M := mX5_rejects) h hm dX5_releases_32 rfl lX5_84 vX5_rejects rfl hQ.l0 hQ.o (Nat.le_of_ble_eq_true rfl) (rrb rfl) (kX5_rejects1 hQ (fun S4 hQ4 hR4 => ?_))
      show AW X G _ _ _ _ _ _ _ _
      refine r_if_ne (tgt := 66) (pc' := 38) h dX5_releases_35 (by decide) rfl (fun _ => ?_) (fun c => absurd c (by decide))
      refine r_iconst (pc' := 67) (v := 3) h dX5_releases_66 rfl (by decide) ?_
      refine r_ireturn h hm dX5_releases_67 (Nat.le_of_ble_eq_true rfl) (Nat.le_of_ble_eq_true rfl) ?_
      exact kM hk hQ4 hR4 (by first | rfl | contradiction | (simp [qRel, mM_sI, mI_sI, mI_sM, mM_sM, c0, c1]; done) | (simp [qRel, mM_sI, mI_sI, mI_sM, mM_sM, c0, c1]; rfl))
  · refine r_iconst (pc' := 9) (v := 1) h dX5_releases_8 rfl (by decide) ?_
    refine r_ireturn h hm dX5_releases_9 (Nat.le_of_ble_eq_true rfl) (Nat.le_of_ble_eq_true rfl) ?_
    exact kM hk hQ GR.rfl' (by first | rfl | contradiction | (simp [qRel, mM_sI, mI_sI, mI_sM, mM_sM, c0]; done) | (simp [qRel, mM_sI, mI_sI, mI_sM, mM_sM, c0]; rfl))
theorem kX5_blows {l : Launch} {G : GX} {N : Nat} {S : Nat → va_E} {K : RK} {Q : MM} (hQ : isM G N S Q) (hw : wM (mM Q)) {x y : Int32} (hk : ∀ S1, isM G N S1 (qBlo Q x y).1 → GR S S1 → K (.inl (some (.int (qBlo Q x y).2))) S1) : RetK l G N mX5_blows (7, 158, 0, 0) [.ref (ad G 119), .int x, .int y] S K := by
  refine ret_enter (by decide +kernel) (Nat.le_of_ble_eq_true rfl) (fun X hX h hm => ?_)
  subst hX
  replace h : OK X G N cX5_blows RX5 3 (7, 158, 0, 0) := h
  replace hm : OKm X G N K (some .int) (7, 158, 0, 0) := hm
  show AW X G 3 N 0 [(0, _), (1, _), (2, _)] [] S 0 0
  refine r_iload_n (pc' := 1) h dX5_blows_0 rfl rfl ?_
  refine r_if_lt (tgt := 14) (pc' := 4) h dX5_blows_1 (by decide) rfl (fun c0 => ?_) (fun c0 => ?_)
  · refine r_iconst (pc' := 15) (v := 2) h dX5_blows_14 rfl (by decide) ?_
    refine r_ireturn h hm dX5_blows_15 (Nat.le_of_ble_eq_true rfl) (Nat.le_of_ble_eq_true rfl) ?_
    exact kM hk hQ GR.rfl' (by first | rfl | contradiction | (simp [qBlo, mM_sI, mI_sI, mI_sM, mM_sM, c0]; done) | (simp [qBlo, mM_sI, mI_sI, mI_sM, mM_sM, c0]; rfl))
  · refine r_iload_n (pc' := 5) h dX5_blows_4 rfl rfl ?_
    refine r_iconst (pc' := 6) (v := 0) h dX5_blows_5 rfl (by decide) ?_
    refine r_bipush (pc' := 8) (v := 30) h dX5_blows_6 rfl (by decide) ?_
    refine r_callS3 (pc' := 11) (M := mX5_in) h hm dX5_blows_8 rfl lX5_53 vX5_in (Nat.le_of_ble_eq_true rfl) (rrb rfl) (kX5_in ?_)
    show AW X G _ _ _ _ _ _ _ _
    refine r_if_neb (tgt := 16) (pc' := 14) h dX5_blows_11 (by decide) rfl (fun c1 => ?_) (fun c1 => ?_)
    · refine r_aload_n (pc' := 17) h dX5_blows_16 rfl rfl ?_
      refine gX5_9 (pc' := 20) h dX5_blows_17 rfl hQ.l0 hQ.o rfl ?_
      refine r_iconst (pc' := 21) (v := 1) h dX5_blows_20 rfl (by decide) ?_
      refine r_iload_n (pc' := 22) h dX5_blows_21 rfl rfl ?_
      refine r_iastk (k0 := 1) (pc' := 23) h dX5_blows_22 rfl hQ.l1 hQ.r1 (by unfold vp_in; decide) rfl ?_
      refine wU0 hQ (fun S1 hQ1 hR1 => ?_)
      have hw1 := wM_isU hQ1 hw (by decide)
      refine r_aload_n (pc' := 24) h dX5_blows_23 rfl rfl ?_
      refine gX5_9 (pc' := 27) h dX5_blows_24 rfl hQ1.l0 hQ1.o rfl ?_
      refine r_iconst (pc' := 28) (v := 2) h dX5_blows_27 rfl (by decide) ?_
      refine r_iload_n (pc' := 29) h dX5_blows_28 rfl rfl ?_
      refine r_iastk (k0 := 2) (pc' := 30) h dX5_blows_29 rfl hQ1.l1 hQ1.r1 (by unfold vp_in; decide) rfl ?_
      refine wU0 hQ1 (fun S2 hQ2 hR2 => ?_)
      have hw2 := wM_isU hQ2 hw1 (by decide)
      refine r_aload_n (pc' := 31) h dX5_blows_30 rfl rfl ?_
      refine r_aload_n (pc' := 32) h dX5_blows_31 rfl rfl ?_
      refine r_callV0 (pc' := 35) (M := mX5_total) h hm dX5_blows_32 rfl lX5_129 vX5_total rfl hQ2.l0 hQ2.o (Nat.le_of_ble_eq_true rfl) (rrb rfl) (kX5_total hQ2 hw2 ?_)
      show AW X G _ _ _ _ _ _ _ _
      refine pX5_37 (pc' := 38) h dX5_blows_35 rfl hQ2.l0 hQ2.o (Nat.le_of_ble_eq_true rfl) ?_
      refine wM4 hQ2 (fun S3 hQ3 hR3 => ?_)
      refine r_iconst (pc' := 39) (v := 0) h dX5_blows_38 rfl (by decide) ?_
      refine r_ireturn h hm dX5_blows_39 (Nat.le_of_ble_eq_true rfl) (Nat.le_of_ble_eq_true rfl) ?_
      exact kM hk hQ3 (((hR1).trans hR2).trans hR3) (by first | rfl | contradiction | (simp [qBlo, mM_sI, mI_sI, mI_sM, mM_sM, c0, c1]; done) | (simp [qBlo, mM_sI, mI_sI, mI_sM, mM_sM, c0, c1]; rfl))
    · refine r_iconst (pc' := 15) (v := 2) h dX5_blows_14 rfl (by decide) ?_
      refine r_ireturn h hm dX5_blows_15 (Nat.le_of_ble_eq_true rfl) (Nat.le_of_ble_eq_true rfl) ?_
      exact kM hk hQ GR.rfl' (by first | rfl | contradiction | (simp [qBlo, mM_sI, mI_sI, mI_sM, mM_sM, c0, c1]; done) | (simp [qBlo, mM_sI, mI_sI, mI_sM, mM_sM, c0, c1]; rfl))
theorem kX5_limits {l : Launch} {G : GX} {N : Nat} {S : Nat → va_E} {K : RK} {Q : MM} (hQ : isM G N S Q) (hw : wM (mM Q)) {x : Int32} (hk : ∀ S1, isM G N S1 (qLim Q x).1 → GR S S1 → K (.inl (some (.int (qLim Q x).2))) S1) : RetK l G N mX5_limits (1, 22, 0, 0) [.ref (ad G 119), .int x] S K := by
  refine ret_enter (by decide +kernel) (Nat.le_of_ble_eq_true rfl) (fun X hX h hm => ?_)
  subst hX
  replace h : OK X G N cX5_limits RX5 2 (1, 22, 0, 0) := h
  replace hm : OKm X G N K (some .int) (1, 22, 0, 0) := hm
  show AW X G 2 N 0 [(0, _), (1, _)] [] S 0 0
  refine r_iload_n (pc' := 1) h dX5_limits_0 rfl rfl ?_
  refine r_iconst (pc' := 2) (v := 0) h dX5_limits_1 rfl (by decide) ?_
  refine r_sipush (pc' := 5) (v := 999) h dX5_limits_2 rfl (by decide) ?_
  refine r_callS3 (pc' := 8) (M := mX5_in) h hm dX5_limits_5 rfl lX5_53 vX5_in (Nat.le_of_ble_eq_true rfl) (rrb rfl) (kX5_in ?_)
  show AW X G _ _ _ _ _ _ _ _
  refine r_if_neb (tgt := 13) (pc' := 11) h dX5_limits_8 (by decide) rfl (fun c0 => ?_) (fun c0 => ?_)
  · refine r_aload_n (pc' := 14) h dX5_limits_13 rfl rfl ?_
    refine r_aload_n (pc' := 15) h dX5_limits_14 rfl rfl ?_
    refine gX5_9 (pc' := 18) h dX5_limits_15 rfl hQ.l0 hQ.o rfl ?_
    refine r_iconst (pc' := 19) (v := 3) h dX5_limits_18 rfl (by decide) ?_
    refine r_ialdk (k0 := 3) (pc' := 20) h dX5_limits_19 rfl hQ.l1 hQ.r1 (by unfold vp_in; decide) rfl ?_
    refine pX5_37 (pc' := 23) h dX5_limits_20 rfl hQ.l0 hQ.o (Nat.le_of_ble_eq_true rfl) ?_
    refine wM4 hQ (fun S1 hQ1 hR1 => ?_)
    refine r_aload_n (pc' := 24) h dX5_limits_23 rfl rfl ?_
    refine gX5_9 (pc' := 27) h dX5_limits_24 rfl hQ1.l0 hQ1.o rfl ?_
    refine r_iconst (pc' := 28) (v := 3) h dX5_limits_27 rfl (by decide) ?_
    refine r_iload_n (pc' := 29) h dX5_limits_28 rfl rfl ?_
    refine r_iastk (k0 := 3) (pc' := 30) h dX5_limits_29 rfl hQ1.l1 hQ1.r1 (by unfold vp_in; decide) rfl ?_
    refine wU0 hQ1 (fun S2 hQ2 hR2 => ?_)
    refine r_iconst (pc' := 31) (v := 0) h dX5_limits_30 rfl (by decide) ?_
    refine r_ireturn h hm dX5_limits_31 (Nat.le_of_ble_eq_true rfl) (Nat.le_of_ble_eq_true rfl) ?_
    exact kM hk hQ2 ((hR1).trans hR2) (by first | rfl | contradiction | (simp [qLim, mM_sI, mI_sI, mI_sM, mM_sM, c0]; done) | (simp [qLim, mM_sI, mI_sI, mI_sM, mM_sM, c0]; rfl))
  · refine r_iconst (pc' := 12) (v := 2) h dX5_limits_11 rfl (by decide) ?_
    refine r_ireturn h hm dX5_limits_12 (Nat.le_of_ble_eq_true rfl) (Nat.le_of_ble_eq_true rfl) ?_
    exact kM hk hQ GR.rfl' (by first | rfl | contradiction | (simp [qLim, mM_sI, mI_sI, mI_sM, mM_sM, c0]; done) | (simp [qLim, mM_sI, mI_sI, mI_sM, mM_sM, c0]; rfl))
theorem kX5_places {l : Launch} {G : GX} {N : Nat} {S : Nat → va_E} {K : RK} {Q : MM} (hQ : isM G N S Q) (hw : wM (mM Q)) {x y z : Int32} (hk : ∀ S1, isM G N S1 (qPla Q x y z).1 → GR S S1 → K (.inl (some (.int (qPla Q x y z).2))) S1) : RetK l G N mX5_places (2, 43, 0, 0) [.ref (ad G 119), .int x, .int y, .int z] S K := by
  refine ret_enter (by decide +kernel) (Nat.le_of_ble_eq_true rfl) (fun X hX h hm => ?_)
  subst hX
  replace h : OK X G N cX5_places RX5 4 (2, 43, 0, 0) := h
  replace hm : OKm X G N K (some .int) (2, 43, 0, 0) := hm
  show AW X G 4 N 0 [(0, _), (1, _), (2, _), (3, _)] [] S 0 0
  refine r_iload_n (pc' := 1) h dX5_places_0 rfl rfl ?_
  refine r_callS1 (pc' := 4) (M := mX5_isHour) h hm dX5_places_1 rfl lX5_150 vX5_isHour (Nat.le_of_ble_eq_true rfl) (rrb rfl) (kX5_isHour ?_)
  show AW X G _ _ _ _ _ _ _ _
  refine r_if_neb (tgt := 9) (pc' := 7) h dX5_places_4 (by decide) rfl (fun c0 => ?_) (fun c0 => ?_)
  · have hx := isH_in c0
    refine r_iload_n (pc' := 10) h dX5_places_9 rfl rfl ?_
    refine r_iconst (pc' := 11) (v := 1) h dX5_places_10 rfl (by decide) ?_
    refine r_bipush (pc' := 13) (v := 50) h dX5_places_11 rfl (by decide) ?_
    refine r_callS3 (pc' := 16) (M := mX5_in) h hm dX5_places_13 rfl lX5_53 vX5_in (Nat.le_of_ble_eq_true rfl) (rrb rfl) (kX5_in ?_)
    show AW X G _ _ _ _ _ _ _ _
    refine r_if_eqb (tgt := 30) (pc' := 19) h dX5_places_16 (by decide) rfl (fun c1 => ?_) (fun c1 => ?_)
    · refine r_iconst (pc' := 31) (v := 2) h dX5_places_30 rfl (by decide) ?_
      refine r_ireturn h hm dX5_places_31 (Nat.le_of_ble_eq_true rfl) (Nat.le_of_ble_eq_true rfl) ?_
      exact kM hk hQ GR.rfl' (by first | rfl | contradiction | (simp [qPla, mM_sI, mI_sI, mI_sM, mM_sM, c0, c1]; done) | (simp [qPla, mM_sI, mI_sI, mI_sM, mM_sM, c0, c1]; rfl))
    · refine r_iload_n (pc' := 20) h dX5_places_19 rfl rfl ?_
      refine r_iconst (pc' := 21) (v := 1) h dX5_places_20 rfl (by decide) ?_
      refine r_sipush (pc' := 24) (v := 500) h dX5_places_21 rfl (by decide) ?_
      refine r_callS3 (pc' := 27) (M := mX5_in) h hm dX5_places_24 rfl lX5_53 vX5_in (Nat.le_of_ble_eq_true rfl) (rrb rfl) (kX5_in ?_)
      show AW X G _ _ _ _ _ _ _ _
      refine r_if_neb (tgt := 32) (pc' := 30) h dX5_places_27 (by decide) rfl (fun c2 => ?_) (fun c2 => ?_)
      · refine r_aload_n (pc' := 33) h dX5_places_32 rfl rfl ?_
        refine r_aload_n (pc' := 34) h dX5_places_33 rfl rfl ?_
        refine r_iload_n (pc' := 35) h dX5_places_34 rfl rfl ?_
        refine r_callV1 (pc' := 38) (M := mX5_price) h hm dX5_places_35 rfl lX5_147 vX5_price rfl hQ.l0 hQ.o (Nat.le_of_ble_eq_true rfl) (rrb rfl) (kX5_price hQ (hx) ?_)
        show AW X G _ _ _ _ _ _ _ _
        refine r_if_le (tgt := 45) (pc' := 41) h dX5_places_38 (by decide) rfl (fun c3 => ?_) (fun c3 => ?_)
        · refine r_iconst (pc' := 46) (v := 0) h dX5_places_45 rfl (by decide) ?_
          refine r_bipush (pc' := 48) (v := 8) h dX5_places_46 rfl (by decide) ?_
          refine r_aload_n (pc' := 49) h dX5_places_48 rfl rfl ?_
          refine r_iload_n (pc' := 50) h dX5_places_49 rfl rfl ?_
          refine r_callV1 (pc' := 53) (M := mX5_price) h hm dX5_places_50 rfl lX5_147 vX5_price rfl hQ.l0 hQ.o (Nat.le_of_ble_eq_true rfl) (rrb rfl) (kX5_price hQ (hx) ?_)
          show AW X G _ _ _ _ _ _ _ _
          refine r_callV3 (pc' := 56) (M := mX5_rejects) h hm dX5_places_53 rfl lX5_84 vX5_rejects rfl hQ.l0 hQ.o (Nat.le_of_ble_eq_true rfl) (rrb rfl) (kX5_rejects0 hQ ?_)
          show AW X G _ _ _ _ _ _ _ _
          refine r_if_eq (tgt := 61) (pc' := 59) h dX5_places_56 (by decide) rfl (fun _ => ?_) (fun c => absurd c (by decide))
          refine r_aload_n (pc' := 62) h dX5_places_61 rfl rfl ?_
          refine gX5_9 (pc' := 65) h dX5_places_62 rfl hQ.l0 hQ.o rfl ?_
          refine r_bipush (pc' := 67) (v := 9) h dX5_places_65 rfl (by decide) ?_
          refine r_iconst (pc' := 68) (v := 2) h dX5_places_67 rfl (by decide) ?_
          refine r_iload_n (pc' := 69) h dX5_places_68 rfl rfl ?_
          refine r_imul (pc' := 70) h dX5_places_69 rfl ?_
          refine r_iadd (pc' := 71) h dX5_places_70 rfl ?_
          refine r_iload_n (pc' := 72) h dX5_places_71 rfl rfl ?_
          refine r_iast (pc' := 73) h dX5_places_72 rfl hQ.l1 hQ.r1 (ix_P hx).1 ?_
          refine wU0 hQ (fun S1 hQ1 hR1 => ?_)
          refine r_aload_n (pc' := 74) h dX5_places_73 rfl rfl ?_
          refine gX5_9 (pc' := 77) h dX5_places_74 rfl hQ1.l0 hQ1.o rfl ?_
          refine r_bipush (pc' := 79) (v := 9) h dX5_places_77 rfl (by decide) ?_
          refine r_iconst (pc' := 80) (v := 2) h dX5_places_79 rfl (by decide) ?_
          refine r_iload_n (pc' := 81) h dX5_places_80 rfl rfl ?_
          refine r_imul (pc' := 82) h dX5_places_81 rfl ?_
          refine r_iadd (pc' := 83) h dX5_places_82 rfl ?_
          refine r_iconst (pc' := 84) (v := 1) h dX5_places_83 rfl (by decide) ?_
          refine r_iadd (pc' := 85) h dX5_places_84 rfl ?_
          refine r_iload_n (pc' := 86) h dX5_places_85 rfl rfl ?_
          refine r_iast (pc' := 87) h dX5_places_86 rfl hQ1.l1 hQ1.r1 (ix_P hx).2 ?_
          refine wU0 hQ1 (fun S2 hQ2 hR2 => ?_)
          refine r_aload_n (pc' := 88) h dX5_places_87 rfl rfl ?_
          refine r_aload_n (pc' := 89) h dX5_places_88 rfl rfl ?_
          refine r_callV0 (pc' := 92) (M := mX5_bids) h hm dX5_places_89 rfl lX5_153 vX5_bids rfl hQ2.l0 hQ2.o (Nat.le_of_ble_eq_true rfl) (rrb rfl) (kX5_bids hQ2 ?_)
          show AW X G _ _ _ _ _ _ _ _
          refine pX5_37 (pc' := 95) h dX5_places_92 rfl hQ2.l0 hQ2.o (Nat.le_of_ble_eq_true rfl) ?_
          refine wM4 hQ2 (fun S3 hQ3 hR3 => ?_)
          refine r_iconst (pc' := 96) (v := 0) h dX5_places_95 rfl (by decide) ?_
          refine r_ireturn h hm dX5_places_96 (Nat.le_of_ble_eq_true rfl) (Nat.le_of_ble_eq_true rfl) ?_
          exact kM hk hQ3 (((hR1).trans hR2).trans hR3) (by first | rfl | contradiction | (simp [qPla, mM_sI, mI_sI, mI_sM, mM_sM, c0, c1, c2, c3]; done) | (simp [qPla, mM_sI, mI_sI, mI_sM, mM_sM, c0, c1, c2, c3]; rfl))
        · refine r_iconst (pc' := 42) (v := 1) h dX5_places_41 rfl (by decide) ?_
          refine r_goto (tgt := 46) h dX5_places_42 (by decide) ?_
          refine r_bipush (pc' := 48) (v := 8) h dX5_places_46 rfl (by decide) ?_
          refine r_aload_n (pc' := 49) h dX5_places_48 rfl rfl ?_
          refine r_iload_n (pc' := 50) h dX5_places_49 rfl rfl ?_
          refine r_callV1 (pc' := 53) (M := mX5_price) h hm dX5_places_50 rfl lX5_147 vX5_price rfl hQ.l0 hQ.o (Nat.le_of_ble_eq_true rfl) (rrb rfl) (kX5_price hQ (hx) ?_)
          show AW X G _ _ _ _ _ _ _ _
          refine r_callV3 (pc' := 56) (M := mX5_rejects) h hm dX5_places_53 rfl lX5_84 vX5_rejects rfl hQ.l0 hQ.o (Nat.le_of_ble_eq_true rfl) (rrb rfl) (kX5_rejects1 hQ (fun S4 hQ4 hR4 => ?_))
          show AW X G _ _ _ _ _ _ _ _
          refine r_if_eq (tgt := 61) (pc' := 59) h dX5_places_56 (by decide) rfl (fun c => absurd c (by decide)) (fun _ => ?_)
          refine r_iconst (pc' := 60) (v := 3) h dX5_places_59 rfl (by decide) ?_
          refine r_ireturn h hm dX5_places_60 (Nat.le_of_ble_eq_true rfl) (Nat.le_of_ble_eq_true rfl) ?_
          exact kM hk hQ4 hR4 (by first | rfl | contradiction | (simp [qPla, mM_sI, mI_sI, mI_sM, mM_sM, c0, c1, c2, c3]; done) | (simp [qPla, mM_sI, mI_sI, mI_sM, mM_sM, c0, c1, c2, c3]; rfl))
      · refine r_iconst (pc' := 31) (v := 2) h dX5_places_30 rfl (by decide) ?_
        refine r_ireturn h hm dX5_places_31 (Nat.le_of_ble_eq_true rfl) (Nat.le_of_ble_eq_true rfl) ?_
        exact kM hk hQ GR.rfl' (by first | rfl | contradiction | (simp [qPla, mM_sI, mI_sI, mI_sM, mM_sM, c0, c1, c2]; done) | (simp [qPla, mM_sI, mI_sI, mI_sM, mM_sM, c0, c1, c2]; rfl))
  · refine r_iconst (pc' := 8) (v := 1) h dX5_places_7 rfl (by decide) ?_
    refine r_ireturn h hm dX5_places_8 (Nat.le_of_ble_eq_true rfl) (Nat.le_of_ble_eq_true rfl) ?_
    exact kM hk hQ GR.rfl' (by first | rfl | contradiction | (simp [qPla, mM_sI, mI_sI, mI_sM, mM_sM, c0]; done) | (simp [qPla, mM_sI, mI_sI, mI_sM, mM_sM, c0]; rfl))
theorem kX5_withdraws {l : Launch} {G : GX} {N : Nat} {S : Nat → va_E} {K : RK} {Q : MM} (hQ : isM G N S Q) (hw : wM (mM Q)) {x : Int32} (hk : ∀ S1, isM G N S1 (qWdr Q x).1 → GR S S1 → K (.inl (some (.int (qWdr Q x).2))) S1) : RetK l G N mX5_withdraws (2, 43, 0, 0) [.ref (ad G 119), .int x] S K := by
  refine ret_enter (by decide +kernel) (Nat.le_of_ble_eq_true rfl) (fun X hX h hm => ?_)
  subst hX
  replace h : OK X G N cX5_withdraws RX5 2 (2, 43, 0, 0) := h
  replace hm : OKm X G N K (some .int) (2, 43, 0, 0) := hm
  show AW X G 2 N 0 [(0, _), (1, _)] [] S 0 0
  refine r_iload_n (pc' := 1) h dX5_withdraws_0 rfl rfl ?_
  refine r_callS1 (pc' := 4) (M := mX5_isHour) h hm dX5_withdraws_1 rfl lX5_150 vX5_isHour (Nat.le_of_ble_eq_true rfl) (rrb rfl) (kX5_isHour ?_)
  show AW X G _ _ _ _ _ _ _ _
  refine r_if_neb (tgt := 9) (pc' := 7) h dX5_withdraws_4 (by decide) rfl (fun c0 => ?_) (fun c0 => ?_)
  · have hx := isH_in c0
    refine r_aload_n (pc' := 10) h dX5_withdraws_9 rfl rfl ?_
    refine r_aload_n (pc' := 11) h dX5_withdraws_10 rfl rfl ?_
    refine r_iload_n (pc' := 12) h dX5_withdraws_11 rfl rfl ?_
    refine r_callV1 (pc' := 15) (M := mX5_price) h hm dX5_withdraws_12 rfl lX5_147 vX5_price rfl hQ.l0 hQ.o (Nat.le_of_ble_eq_true rfl) (rrb rfl) (kX5_price hQ (hx) ?_)
    show AW X G _ _ _ _ _ _ _ _
    refine r_if_ne (tgt := 22) (pc' := 18) h dX5_withdraws_15 (by decide) rfl (fun c1 => ?_) (fun c1 => ?_)
    · refine r_iconst (pc' := 23) (v := 0) h dX5_withdraws_22 rfl (by decide) ?_
      refine r_bipush (pc' := 25) (v := 9) h dX5_withdraws_23 rfl (by decide) ?_
      refine r_aload_n (pc' := 26) h dX5_withdraws_25 rfl rfl ?_
      refine r_callV0 (pc' := 29) (M := mX5_bids) h hm dX5_withdraws_26 rfl lX5_153 vX5_bids rfl hQ.l0 hQ.o (Nat.le_of_ble_eq_true rfl) (rrb rfl) (kX5_bids hQ ?_)
      show AW X G _ _ _ _ _ _ _ _
      refine r_callV3 (pc' := 32) (M := mX5_rejects) h hm dX5_withdraws_29 rfl lX5_84 vX5_rejects rfl hQ.l0 hQ.o (Nat.le_of_ble_eq_true rfl) (rrb rfl) (kX5_rejects0 hQ ?_)
      show AW X G _ _ _ _ _ _ _ _
      refine r_if_eq (tgt := 37) (pc' := 35) h dX5_withdraws_32 (by decide) rfl (fun _ => ?_) (fun c => absurd c (by decide))
      refine r_aload_n (pc' := 38) h dX5_withdraws_37 rfl rfl ?_
      refine r_aload_n (pc' := 39) h dX5_withdraws_38 rfl rfl ?_
      refine r_iload_n (pc' := 40) h dX5_withdraws_39 rfl rfl ?_
      refine r_callV1 (pc' := 43) (M := mX5_quantity) h hm dX5_withdraws_40 rfl lX5_159 vX5_quantity rfl hQ.l0 hQ.o (Nat.le_of_ble_eq_true rfl) (rrb rfl) (kX5_quantity hQ (hx) ?_)
      show AW X G _ _ _ _ _ _ _ _
      refine pX5_37 (pc' := 46) h dX5_withdraws_43 rfl hQ.l0 hQ.o (Nat.le_of_ble_eq_true rfl) ?_
      refine wM4 hQ (fun S1 hQ1 hR1 => ?_)
      refine r_aload_n (pc' := 47) h dX5_withdraws_46 rfl rfl ?_
      refine gX5_9 (pc' := 50) h dX5_withdraws_47 rfl hQ1.l0 hQ1.o rfl ?_
      refine r_bipush (pc' := 52) (v := 9) h dX5_withdraws_50 rfl (by decide) ?_
      refine r_iconst (pc' := 53) (v := 2) h dX5_withdraws_52 rfl (by decide) ?_
      refine r_iload_n (pc' := 54) h dX5_withdraws_53 rfl rfl ?_
      refine r_imul (pc' := 55) h dX5_withdraws_54 rfl ?_
      refine r_iadd (pc' := 56) h dX5_withdraws_55 rfl ?_
      refine r_iconst (pc' := 57) (v := 0) h dX5_withdraws_56 rfl (by decide) ?_
      refine r_iast (pc' := 58) h dX5_withdraws_57 rfl hQ1.l1 hQ1.r1 (ix_P hx).1 ?_
      refine wU0 hQ1 (fun S2 hQ2 hR2 => ?_)
      refine r_aload_n (pc' := 59) h dX5_withdraws_58 rfl rfl ?_
      refine gX5_9 (pc' := 62) h dX5_withdraws_59 rfl hQ2.l0 hQ2.o rfl ?_
      refine r_bipush (pc' := 64) (v := 9) h dX5_withdraws_62 rfl (by decide) ?_
      refine r_iconst (pc' := 65) (v := 2) h dX5_withdraws_64 rfl (by decide) ?_
      refine r_iload_n (pc' := 66) h dX5_withdraws_65 rfl rfl ?_
      refine r_imul (pc' := 67) h dX5_withdraws_66 rfl ?_
      refine r_iadd (pc' := 68) h dX5_withdraws_67 rfl ?_
      refine r_iconst (pc' := 69) (v := 1) h dX5_withdraws_68 rfl (by decide) ?_
      refine r_iadd (pc' := 70) h dX5_withdraws_69 rfl ?_
      refine r_iconst (pc' := 71) (v := 0) h dX5_withdraws_70 rfl (by decide) ?_
      refine r_iast (pc' := 72) h dX5_withdraws_71 rfl hQ2.l1 hQ2.r1 (ix_P hx).2 ?_
      refine wU0 hQ2 (fun S3 hQ3 hR3 => ?_)
      refine r_iconst (pc' := 73) (v := 0) h dX5_withdraws_72 rfl (by decide) ?_
      refine r_ireturn h hm dX5_withdraws_73 (Nat.le_of_ble_eq_true rfl) (Nat.le_of_ble_eq_true rfl) ?_
      exact kM hk hQ3 (((hR1).trans hR2).trans hR3) (by first | rfl | contradiction | (simp [qWdr, mM_sI, mI_sI, mI_sM, mM_sM, c0, c1]; done) | (simp [qWdr, mM_sI, mI_sI, mI_sM, mM_sM, c0, c1]; rfl))
    · refine r_iconst (pc' := 19) (v := 1) h dX5_withdraws_18 rfl (by decide) ?_
      refine r_goto (tgt := 23) h dX5_withdraws_19 (by decide) ?_
      refine r_bipush (pc' := 25) (v := 9) h dX5_withdraws_23 rfl (by decide) ?_
      refine r_aload_n (pc' := 26) h dX5_withdraws_25 rfl rfl ?_
      refine r_callV0 (pc' := 29) (M := mX5_bids) h hm dX5_withdraws_26 rfl lX5_153 vX5_bids rfl hQ.l0 hQ.o (Nat.le_of_ble_eq_true rfl) (rrb rfl) (kX5_bids hQ ?_)
      show AW X G _ _ _ _ _ _ _ _
      refine r_callV3 (pc' := 32) (M := mX5_rejects) h hm dX5_withdraws_29 rfl lX5_84 vX5_rejects rfl hQ.l0 hQ.o (Nat.le_of_ble_eq_true rfl) (rrb rfl) (kX5_rejects1 hQ (fun S4 hQ4 hR4 => ?_))
      show AW X G _ _ _ _ _ _ _ _
      refine r_if_eq (tgt := 37) (pc' := 35) h dX5_withdraws_32 (by decide) rfl (fun c => absurd c (by decide)) (fun _ => ?_)
      refine r_iconst (pc' := 36) (v := 3) h dX5_withdraws_35 rfl (by decide) ?_
      refine r_ireturn h hm dX5_withdraws_36 (Nat.le_of_ble_eq_true rfl) (Nat.le_of_ble_eq_true rfl) ?_
      exact kM hk hQ4 hR4 (by first | rfl | contradiction | (simp [qWdr, mM_sI, mI_sI, mI_sM, mM_sM, c0, c1]; done) | (simp [qWdr, mM_sI, mI_sI, mI_sM, mM_sM, c0, c1]; rfl))
  · refine r_iconst (pc' := 8) (v := 1) h dX5_withdraws_7 rfl (by decide) ?_
    refine r_ireturn h hm dX5_withdraws_8 (Nat.le_of_ble_eq_true rfl) (Nat.le_of_ble_eq_true rfl) ?_
    exact kM hk hQ GR.rfl' (by first | rfl | contradiction | (simp [qWdr, mM_sI, mI_sI, mI_sM, mM_sM, c0]; done) | (simp [qWdr, mM_sI, mI_sI, mI_sM, mM_sM, c0]; rfl))
