/-! THE WALKS: the reference's readers. -/
theorem kX5_in {l : Launch} {G : GX} {N : Nat} {S : Nat → va_E} {K : RK} {x lw hi : Int32} (hk : K (.inl (some (.int (b2i (wIn x lw hi))))) S) : RetK l G N mX5_in (0, 0, 0, 0) [.int x, .int lw, .int hi] S K := by
  refine ret_enter (by decide +kernel) (Nat.le_of_ble_eq_true rfl) (fun X hX h hm => ?_)
  subst hX
  replace h : OK X G N cX5_in RX5 3 (0, 0, 0, 0) := h
  replace hm : OKm X G N K (some .boolean) (0, 0, 0, 0) := hm
  show AW X G 3 N 0 [(0, _), (1, _), (2, _)] [] S 0 0
  refine r_iload_n (pc' := 1) h dX5_in_0 rfl rfl ?_
  refine r_iload_n (pc' := 2) h dX5_in_1 rfl rfl ?_
  refine r_icmp_lt (tgt := 14) (pc' := 5) h dX5_in_2 (by decide) rfl (fun c0 => ?_) (fun c0 => ?_)
  · refine r_iconst (pc' := 15) (v := 0) h dX5_in_14 rfl (by decide) ?_
    refine r_zreturn h hm dX5_in_15 (Nat.le_of_ble_eq_true rfl) (Nat.le_of_ble_eq_true rfl) (by first | rfl | exact nar_b _) ?_
    exact kI hk (by first | rfl | contradiction | simp [wIn, b2i, c0])
  · refine r_iload_n (pc' := 6) h dX5_in_5 rfl rfl ?_
    refine r_iload_n (pc' := 7) h dX5_in_6 rfl rfl ?_
    refine r_icmp_gt (tgt := 14) (pc' := 10) h dX5_in_7 (by decide) rfl (fun c1 => ?_) (fun c1 => ?_)
    · refine r_iconst (pc' := 15) (v := 0) h dX5_in_14 rfl (by decide) ?_
      refine r_zreturn h hm dX5_in_15 (Nat.le_of_ble_eq_true rfl) (Nat.le_of_ble_eq_true rfl) (by first | rfl | exact nar_b _) ?_
      exact kI hk (by first | rfl | contradiction | simp [wIn, b2i, c0, c1])
    · refine r_iconst (pc' := 11) (v := 1) h dX5_in_10 rfl (by decide) ?_
      refine r_goto (tgt := 15) h dX5_in_11 (by decide) ?_
      refine r_zreturn h hm dX5_in_15 (Nat.le_of_ble_eq_true rfl) (Nat.le_of_ble_eq_true rfl) (by first | rfl | exact nar_b _) ?_
      exact kI hk (by first | rfl | contradiction | simp [wIn, b2i, c0, c1])
theorem kX5_isTurbine {l : Launch} {G : GX} {N : Nat} {S : Nat → va_E} {K : RK} {Q : MM} (hQ : isM G N S Q) {t : Int32} (hk : K (.inl (some (.int (b2i (qIT (mM Q) t))))) S) : RetK l G N mX5_isTurbine (1, 22, 0, 0) [.ref (ad G 119), .int t] S K := by
  refine ret_enter (by decide +kernel) (Nat.le_of_ble_eq_true rfl) (fun X hX h hm => ?_)
  subst hX
  replace h : OK X G N cX5_isTurbine RX5 2 (1, 22, 0, 0) := h
  replace hm : OKm X G N K (some .boolean) (1, 22, 0, 0) := hm
  show AW X G 2 N 0 [(0, _), (1, _)] [] S 0 0
  refine r_iload_n (pc' := 1) h dX5_isTurbine_0 rfl rfl ?_
  refine r_iconst (pc' := 2) (v := 0) h dX5_isTurbine_1 rfl (by decide) ?_
  refine r_aload_n (pc' := 3) h dX5_isTurbine_2 rfl rfl ?_
  refine gX5_9 (pc' := 6) h dX5_isTurbine_3 rfl hQ.l0 hQ.o rfl ?_
  refine r_iconst (pc' := 7) (v := 0) h dX5_isTurbine_6 rfl (by decide) ?_
  refine r_ialdk (k0 := 0) (pc' := 8) h dX5_isTurbine_7 rfl hQ.l1 hQ.r1 (by unfold vp_in; decide) rfl ?_
  refine r_iconst (pc' := 9) (v := 1) h dX5_isTurbine_8 rfl (by decide) ?_
  refine r_isub (pc' := 10) h dX5_isTurbine_9 rfl ?_
  refine r_callS3 (pc' := 13) (M := mX5_in) h hm dX5_isTurbine_10 rfl lX5_53 vX5_in (Nat.le_of_ble_eq_true rfl) (rrb rfl) (kX5_in ?_)
  show AW X G _ _ _ _ _ _ _ _
  refine r_zreturn h hm dX5_isTurbine_13 (Nat.le_of_ble_eq_true rfl) (Nat.le_of_ble_eq_true rfl) (by first | rfl | exact nar_b _) ?_
  exact kI hk (by first | rfl | contradiction | simp [qIT])
theorem kX5_isCell {l : Launch} {G : GX} {N : Nat} {S : Nat → va_E} {K : RK} {r c : Int32} (hk : K (.inl (some (.int (b2i (isCell' r c))))) S) : RetK l G N mX5_isCell (1, 22, 0, 0) [.int r, .int c] S K := by
  refine ret_enter (by decide +kernel) (Nat.le_of_ble_eq_true rfl) (fun X hX h hm => ?_)
  subst hX
  replace h : OK X G N cX5_isCell RX5 2 (1, 22, 0, 0) := h
  replace hm : OKm X G N K (some .boolean) (1, 22, 0, 0) := hm
  show AW X G 2 N 0 [(0, _), (1, _)] [] S 0 0
  refine r_iload_n (pc' := 1) h dX5_isCell_0 rfl rfl ?_
  refine r_iconst (pc' := 2) (v := 0) h dX5_isCell_1 rfl (by decide) ?_
  refine r_iconst (pc' := 3) (v := 4) h dX5_isCell_2 rfl (by decide) ?_
  refine r_callS3 (pc' := 6) (M := mX5_in) h hm dX5_isCell_3 rfl lX5_53 vX5_in (Nat.le_of_ble_eq_true rfl) (rrb rfl) (kX5_in ?_)
  show AW X G _ _ _ _ _ _ _ _
  refine r_if_eqb (tgt := 22) (pc' := 9) h dX5_isCell_6 (by decide) rfl (fun c0 => ?_) (fun c0 => ?_)
  · refine r_iconst (pc' := 23) (v := 0) h dX5_isCell_22 rfl (by decide) ?_
    refine r_zreturn h hm dX5_isCell_23 (Nat.le_of_ble_eq_true rfl) (Nat.le_of_ble_eq_true rfl) (by first | rfl | exact nar_b _) ?_
    exact kI hk (by first | rfl | contradiction | simp [isCell', b2i, c0])
  · refine r_iload_n (pc' := 10) h dX5_isCell_9 rfl rfl ?_
    refine r_iconst (pc' := 11) (v := 0) h dX5_isCell_10 rfl (by decide) ?_
    refine r_iconst (pc' := 12) (v := 5) h dX5_isCell_11 rfl (by decide) ?_
    refine r_callS3 (pc' := 15) (M := mX5_in) h hm dX5_isCell_12 rfl lX5_53 vX5_in (Nat.le_of_ble_eq_true rfl) (rrb rfl) (kX5_in ?_)
    show AW X G _ _ _ _ _ _ _ _
    refine r_if_eqb (tgt := 22) (pc' := 18) h dX5_isCell_15 (by decide) rfl (fun c1 => ?_) (fun c1 => ?_)
    · refine r_iconst (pc' := 23) (v := 0) h dX5_isCell_22 rfl (by decide) ?_
      refine r_zreturn h hm dX5_isCell_23 (Nat.le_of_ble_eq_true rfl) (Nat.le_of_ble_eq_true rfl) (by first | rfl | exact nar_b _) ?_
      exact kI hk (by first | rfl | contradiction | simp [isCell', b2i, c0, c1])
    · refine r_iconst (pc' := 19) (v := 1) h dX5_isCell_18 rfl (by decide) ?_
      refine r_goto (tgt := 23) h dX5_isCell_19 (by decide) ?_
      refine r_zreturn h hm dX5_isCell_23 (Nat.le_of_ble_eq_true rfl) (Nat.le_of_ble_eq_true rfl) (by first | rfl | exact nar_b _) ?_
      exact kI hk (by first | rfl | contradiction | simp [isCell', b2i, c0, c1])
theorem kX5_isHour {l : Launch} {G : GX} {N : Nat} {S : Nat → va_E} {K : RK} {x : Int32} (hk : K (.inl (some (.int (b2i (isHour' x))))) S) : RetK l G N mX5_isHour (1, 22, 0, 0) [.int x] S K := by
  refine ret_enter (by decide +kernel) (Nat.le_of_ble_eq_true rfl) (fun X hX h hm => ?_)
  subst hX
  replace h : OK X G N cX5_isHour RX5 1 (1, 22, 0, 0) := h
  replace hm : OKm X G N K (some .boolean) (1, 22, 0, 0) := hm
  show AW X G 1 N 0 [(0, _)] [] S 0 0
  refine r_iload_n (pc' := 1) h dX5_isHour_0 rfl rfl ?_
  refine r_iconst (pc' := 2) (v := 0) h dX5_isHour_1 rfl (by decide) ?_
  refine r_bipush (pc' := 4) (v := 23) h dX5_isHour_2 rfl (by decide) ?_
  refine r_callS3 (pc' := 7) (M := mX5_in) h hm dX5_isHour_4 rfl lX5_53 vX5_in (Nat.le_of_ble_eq_true rfl) (rrb rfl) (kX5_in ?_)
  show AW X G _ _ _ _ _ _ _ _
  refine r_zreturn h hm dX5_isHour_7 (Nat.le_of_ble_eq_true rfl) (Nat.le_of_ble_eq_true rfl) (by first | rfl | exact nar_b _) ?_
  exact kI hk (by first | rfl | contradiction | simp [isHour'])
theorem kX5_t {l : Launch} {G : GX} {N : Nat} {S : Nat → va_E} {K : RK} {Q : MM} (hQ : isM G N S Q) {t w : Int32} (hin : vp_in (57 + 6 * t + w) 1548) (hk : K (.inl (some (.int (qT (mM Q) t w)))) S) : RetK l G N mX5_t (0, 0, 0, 0) [.ref (ad G 119), .int t, .int w] S K := by
  refine ret_enter (by decide +kernel) (Nat.le_of_ble_eq_true rfl) (fun X hX h hm => ?_)
  subst hX
  replace h : OK X G N cX5_t RX5 3 (0, 0, 0, 0) := h
  replace hm : OKm X G N K (some .int) (0, 0, 0, 0) := hm
  show AW X G 3 N 0 [(0, _), (1, _), (2, _)] [] S 0 0
  refine r_aload_n (pc' := 1) h dX5_t_0 rfl rfl ?_
  refine gX5_9 (pc' := 4) h dX5_t_1 rfl hQ.l0 hQ.o rfl ?_
  refine r_bipush (pc' := 6) (v := 57) h dX5_t_4 rfl (by decide) ?_
  refine r_bipush (pc' := 8) (v := 6) h dX5_t_6 rfl (by decide) ?_
  refine r_iload_n (pc' := 9) h dX5_t_8 rfl rfl ?_
  refine r_imul (pc' := 10) h dX5_t_9 rfl ?_
  refine r_iadd (pc' := 11) h dX5_t_10 rfl ?_
  refine r_iload_n (pc' := 12) h dX5_t_11 rfl rfl ?_
  refine r_iadd (pc' := 13) h dX5_t_12 rfl ?_
  refine r_iald (pc' := 14) h dX5_t_13 rfl hQ.l1 hQ.r1 hin ?_
  refine r_ireturn h hm dX5_t_14 (Nat.le_of_ble_eq_true rfl) (Nat.le_of_ble_eq_true rfl) ?_
  exact kI hk (by first | rfl | contradiction | simp [qT])
theorem kX5_inCell {l : Launch} {G : GX} {N : Nat} {S : Nat → va_E} {K : RK} {Q : MM} (hQ : isM G N S Q) (hw : wM (mM Q)) {r c : Int32} (hk : K (.inl (some (.int (qIn (mM Q) r c)))) S) : RetK l G N mX5_inCell (1, 22, 0, 0) [.ref (ad G 119), .int r, .int c] S K := by
  refine ret_enter (by decide +kernel) (Nat.le_of_ble_eq_true rfl) (fun X hX h hm => ?_)
  subst hX
  replace h : OK X G N cX5_inCell RX5 4 (1, 22, 0, 0) := h
  replace hm : OKm X G N K (some .int) (1, 22, 0, 0) := hm
  show AW X G 4 N 0 [(0, _), (1, _), (2, _)] [] S 0 0
  refine r_iconst (pc' := 1) (v := 0) h dX5_inCell_0 rfl (by decide) ?_
  refine r_istoren (j := 3) (pc' := 2) h rfl dX5_inCell_1 rfl (by decide) rfl ?_
  have loop : ∀ (n j : Nat), j ≤ qN (mM Q) → qN (mM Q) - j < n → qIC (mM Q) r c j (qN (mM Q) - j) = qIC (mM Q) r c 0 (qN (mM Q)) → AW X G 4 N 2 [(0, .ref (ad G 119)), (1, .int r), (2, .int c), (3, .int (nI j))] [] S 0 0 := by
    intro n
    induction n with
    | zero => intro j h1 h2; exact absurd h2 (by omega)
    | succ n ih =>
      intro j h1 h2 hv
      refine r_iload_n (pc' := 3) h dX5_inCell_2 rfl rfl ?_
      refine r_aload_n (pc' := 4) h dX5_inCell_3 rfl rfl ?_
      refine gX5_9 (pc' := 7) h dX5_inCell_4 rfl hQ.l0 hQ.o rfl ?_
      refine r_iconst (pc' := 8) (v := 0) h dX5_inCell_7 rfl (by decide) ?_
      refine r_ialdk (k0 := 0) (pc' := 9) h dX5_inCell_8 rfl hQ.l1 hQ.r1 (by unfold vp_in; decide) rfl ?_
      refine r_icmp_ge (tgt := 40) (pc' := 12) h dX5_inCell_9 (by decide) rfl (fun c0 => ?_) (fun c0 => ?_)
      · have ej := lp_ge (c := qN (mM Q)) hw.1 (by have := hw.2; omega) h1 c0
        subst ej
        rw [Nat.sub_self] at hv
        refine r_iconst (pc' := 41) (v := -1) h dX5_inCell_40 rfl (by decide) ?_
        refine r_ireturn h hm dX5_inCell_41 (Nat.le_of_ble_eq_true rfl) (Nat.le_of_ble_eq_true rfl) ?_
        exact kI hk (by unfold qIn; rw [← hv]; simp [qIC])
      · have hj := lp_lt (c := qN (mM Q)) hw.1 (by have := hw.2; omega) h1 c0
        have ht : vp_in (nI j) 12 := vp_in_nI (by have := hw.2; omega) (by decide)
        refine r_aload_n (pc' := 13) h dX5_inCell_12 rfl rfl ?_
        refine r_iload_n (pc' := 14) h dX5_inCell_13 rfl rfl ?_
        refine r_iconst (pc' := 15) (v := 0) h dX5_inCell_14 rfl (by decide) ?_
        refine r_callV2 (pc' := 18) (M := mX5_t) h hm dX5_inCell_15 rfl lX5_57 vX5_t rfl hQ.l0 hQ.o (Nat.le_of_ble_eq_true rfl) (rrb rfl) (kX5_t hQ (ix_T (w := 0) (ht) (by decide)) ?_)
        show AW X G _ _ _ _ _ _ _ _
        refine r_iload_n (pc' := 19) h dX5_inCell_18 rfl rfl ?_
        refine r_icmp_ne (tgt := 34) (pc' := 22) h dX5_inCell_19 (by decide) rfl (fun c1 => ?_) (fun c1 => ?_)
        · refine r_iinc (pc' := 37) (v := 1) h dX5_inCell_34 rfl (by decide) (by decide) rfl rfl ?_
          refine r_goto (tgt := 2) h dX5_inCell_37 (by decide) ?_
          refine aw_cast (by simp [nI_1]) (ih (j + 1) (by omega) (by omega) ?_)
          rw [← hv]
          obtain ⟨k, hk9⟩ : ∃ k, qN (mM Q) - j = k + 1 := ⟨qN (mM Q) - j - 1, by omega⟩
          rw [show qN (mM Q) - (j + 1) = k by omega, hk9]
          simp [qIC, c0, c1]
        · refine r_aload_n (pc' := 23) h dX5_inCell_22 rfl rfl ?_
          refine r_iload_n (pc' := 24) h dX5_inCell_23 rfl rfl ?_
          refine r_iconst (pc' := 25) (v := 1) h dX5_inCell_24 rfl (by decide) ?_
          refine r_callV2 (pc' := 28) (M := mX5_t) h hm dX5_inCell_25 rfl lX5_57 vX5_t rfl hQ.l0 hQ.o (Nat.le_of_ble_eq_true rfl) (rrb rfl) (kX5_t hQ (ix_T (w := 1) (ht) (by decide)) ?_)
          show AW X G _ _ _ _ _ _ _ _
          refine r_iload_n (pc' := 29) h dX5_inCell_28 rfl rfl ?_
          refine r_icmp_ne (tgt := 34) (pc' := 32) h dX5_inCell_29 (by decide) rfl (fun c2 => ?_) (fun c2 => ?_)
          · refine r_iinc (pc' := 37) (v := 1) h dX5_inCell_34 rfl (by decide) (by decide) rfl rfl ?_
            refine r_goto (tgt := 2) h dX5_inCell_37 (by decide) ?_
            refine aw_cast (by simp [nI_1]) (ih (j + 1) (by omega) (by omega) ?_)
            rw [← hv]
            obtain ⟨k, hk9⟩ : ∃ k, qN (mM Q) - j = k + 1 := ⟨qN (mM Q) - j - 1, by omega⟩
            rw [show qN (mM Q) - (j + 1) = k by omega, hk9]
            simp [qIC, c0, c1, c2]
          · refine r_iload_n (pc' := 33) h dX5_inCell_32 rfl rfl ?_
            refine r_ireturn h hm dX5_inCell_33 (Nat.le_of_ble_eq_true rfl) (Nat.le_of_ble_eq_true rfl) ?_
            exact kI hk (by unfold qIn; rw [← hv]; obtain ⟨k, hk9⟩ : ∃ k, qN (mM Q) - j = k + 1 := ⟨qN (mM Q) - j - 1, by omega⟩; rw [hk9]; simp [qIC, c0, c1, c2])
  exact loop (qN (mM Q) + 1) 0 (Nat.zero_le _) (by omega) rfl
theorem kX5_factorOf {l : Launch} {G : GX} {N : Nat} {S : Nat → va_E} {K : RK} {x : Int32} (hk : K (.inl (some (.int (qFac x)))) S) : RetK l G N mX5_factorOf (0, 0, 0, 0) [.int x] S K := by
  refine ret_enter (by decide +kernel) (Nat.le_of_ble_eq_true rfl) (fun X hX h hm => ?_)
  subst hX
  replace h : OK X G N cX5_factorOf RX5 1 (0, 0, 0, 0) := h
  replace hm : OKm X G N K (some .int) (0, 0, 0, 0) := hm
  show AW X G 1 N 0 [(0, _)] [] S 0 0
  refine r_iload_n (pc' := 1) h dX5_factorOf_0 rfl rfl ?_
  refine r_iconst (pc' := 2) (v := 3) h dX5_factorOf_1 rfl (by decide) ?_
  refine r_icmp_lt (tgt := 11) (pc' := 5) h dX5_factorOf_2 (by decide) rfl (fun c0 => ?_) (fun c0 => ?_)
  · refine r_iconst (pc' := 12) (v := 0) h dX5_factorOf_11 rfl (by decide) ?_
    refine r_ireturn h hm dX5_factorOf_12 (Nat.le_of_ble_eq_true rfl) (Nat.le_of_ble_eq_true rfl) ?_
    exact kI hk (by first | rfl | contradiction | simp [qFac, Int32.not_le, Int32.not_lt, c0])
  · refine r_iload_n (pc' := 6) h dX5_factorOf_5 rfl rfl ?_
    refine r_bipush (pc' := 8) (v := 22) h dX5_factorOf_6 rfl (by decide) ?_
    refine r_icmp_le (tgt := 13) (pc' := 11) h dX5_factorOf_8 (by decide) rfl (fun c1 => ?_) (fun c1 => ?_)
    · refine r_iload_n (pc' := 14) h dX5_factorOf_13 rfl rfl ?_
      refine r_iconst (pc' := 15) (v := 5) h dX5_factorOf_14 rfl (by decide) ?_
      refine r_icmp_ge (tgt := 22) (pc' := 18) h dX5_factorOf_15 (by decide) rfl (fun c2 => ?_) (fun c2 => ?_)
      · refine r_iload_n (pc' := 23) h dX5_factorOf_22 rfl rfl ?_
        refine r_bipush (pc' := 25) (v := 8) h dX5_factorOf_23 rfl (by decide) ?_
        refine r_icmp_ge (tgt := 32) (pc' := 28) h dX5_factorOf_25 (by decide) rfl (fun c3 => ?_) (fun c3 => ?_)
        · refine r_iload_n (pc' := 33) h dX5_factorOf_32 rfl rfl ?_
          refine r_bipush (pc' := 35) (v := 12) h dX5_factorOf_33 rfl (by decide) ?_
          refine r_icmp_ge (tgt := 43) (pc' := 38) h dX5_factorOf_35 (by decide) rfl (fun c4 => ?_) (fun c4 => ?_)
          · refine r_bipush (pc' := 45) (v := 10) h dX5_factorOf_43 rfl (by decide) ?_
            refine r_ireturn h hm dX5_factorOf_45 (Nat.le_of_ble_eq_true rfl) (Nat.le_of_ble_eq_true rfl) ?_
            exact kI hk (by first | rfl | contradiction | simp [qFac, Int32.not_le, Int32.not_lt, c0, c1, c2, c3, c4])
          · refine r_bipush (pc' := 40) (v := 8) h dX5_factorOf_38 rfl (by decide) ?_
            refine r_goto (tgt := 45) h dX5_factorOf_40 (by decide) ?_
            refine r_ireturn h hm dX5_factorOf_45 (Nat.le_of_ble_eq_true rfl) (Nat.le_of_ble_eq_true rfl) ?_
            exact kI hk (by first | rfl | contradiction | simp [qFac, Int32.not_le, Int32.not_lt, c0, c1, c2, c3, c4])
        · refine r_iconst (pc' := 29) (v := 5) h dX5_factorOf_28 rfl (by decide) ?_
          refine r_goto (tgt := 45) h dX5_factorOf_29 (by decide) ?_
          refine r_ireturn h hm dX5_factorOf_45 (Nat.le_of_ble_eq_true rfl) (Nat.le_of_ble_eq_true rfl) ?_
          exact kI hk (by first | rfl | contradiction | simp [qFac, Int32.not_le, Int32.not_lt, c0, c1, c2, c3])
      · refine r_iconst (pc' := 19) (v := 2) h dX5_factorOf_18 rfl (by decide) ?_
        refine r_goto (tgt := 45) h dX5_factorOf_19 (by decide) ?_
        refine r_ireturn h hm dX5_factorOf_45 (Nat.le_of_ble_eq_true rfl) (Nat.le_of_ble_eq_true rfl) ?_
        exact kI hk (by first | rfl | contradiction | simp [qFac, Int32.not_le, Int32.not_lt, c0, c1, c2])
    · refine r_iconst (pc' := 12) (v := 0) h dX5_factorOf_11 rfl (by decide) ?_
      refine r_ireturn h hm dX5_factorOf_12 (Nat.le_of_ble_eq_true rfl) (Nat.le_of_ble_eq_true rfl) ?_
      exact kI hk (by first | rfl | contradiction | simp [qFac, Int32.not_le, Int32.not_lt, c0, c1])
theorem kX5_wakeOf {l : Launch} {G : GX} {N : Nat} {S : Nat → va_E} {K : RK} {Q : MM} (hQ : isM G N S Q) (hw : wM (mM Q)) {t f : Int32} (ht : vp_in t 12) (hk : K (.inl (some (.int (qWk (mM Q) t f)))) S) : RetK l G N mX5_wakeOf (2, 45, 0, 0) [.ref (ad G 119), .int t, .int f] S K := by
  refine ret_enter (by decide +kernel) (Nat.le_of_ble_eq_true rfl) (fun X hX h hm => ?_)
  subst hX
  replace h : OK X G N cX5_wakeOf RX5 6 (2, 45, 0, 0) := h
  replace hm : OKm X G N K (some .int) (2, 45, 0, 0) := hm
  show AW X G 6 N 0 [(0, _), (1, _), (2, _)] [] S 0 0
  refine r_aload_n (pc' := 1) h dX5_wakeOf_0 rfl rfl ?_
  refine gX5_9 (pc' := 4) h dX5_wakeOf_1 rfl hQ.l0 hQ.o rfl ?_
  refine r_iconst (pc' := 5) (v := 1) h dX5_wakeOf_4 rfl (by decide) ?_
  refine r_ialdk (k0 := 1) (pc' := 6) h dX5_wakeOf_5 rfl hQ.l1 hQ.r1 (by unfold vp_in; decide) rfl ?_
  refine r_if_ne (tgt := 14) (pc' := 9) h dX5_wakeOf_6 (by decide) rfl (fun c0 => ?_) (fun c0 => ?_)
  · refine r_aload_n (pc' := 15) h dX5_wakeOf_14 rfl rfl ?_
    refine gX5_9 (pc' := 18) h dX5_wakeOf_15 rfl hQ.l0 hQ.o rfl ?_
    refine r_iconst (pc' := 19) (v := 1) h dX5_wakeOf_18 rfl (by decide) ?_
    refine r_ialdk (k0 := 1) (pc' := 20) h dX5_wakeOf_19 rfl hQ.l1 hQ.r1 (by unfold vp_in; decide) rfl ?_
    refine r_iconst (pc' := 21) (v := 2) h dX5_wakeOf_20 rfl (by decide) ?_
    refine r_icmp_ne (tgt := 28) (pc' := 24) h dX5_wakeOf_21 (by decide) rfl (fun c1 => ?_) (fun c1 => ?_)
    · refine r_iconst (pc' := 29) (v := 0) h dX5_wakeOf_28 rfl (by decide) ?_
      refine r_istoren (j := 3) (pc' := 30) h rfl dX5_wakeOf_29 rfl (by decide) rfl ?_
      refine r_aload_n (pc' := 31) h dX5_wakeOf_30 rfl rfl ?_
      refine gX5_9 (pc' := 34) h dX5_wakeOf_31 rfl hQ.l0 hQ.o rfl ?_
      refine r_iconst (pc' := 35) (v := 1) h dX5_wakeOf_34 rfl (by decide) ?_
      refine r_ialdk (k0 := 1) (pc' := 36) h dX5_wakeOf_35 rfl hQ.l1 hQ.r1 (by unfold vp_in; decide) rfl ?_
      refine r_iconst (pc' := 37) (v := 1) h dX5_wakeOf_36 rfl (by decide) ?_
      refine r_icmp_ne (tgt := 44) (pc' := 40) h dX5_wakeOf_37 (by decide) rfl (fun c2 => ?_) (fun c2 => ?_)
      · refine r_aload_n (pc' := 45) h dX5_wakeOf_44 rfl rfl ?_
        refine gX5_9 (pc' := 48) h dX5_wakeOf_45 rfl hQ.l0 hQ.o rfl ?_
        refine r_iconst (pc' := 49) (v := 1) h dX5_wakeOf_48 rfl (by decide) ?_
        refine r_ialdk (k0 := 1) (pc' := 50) h dX5_wakeOf_49 rfl hQ.l1 hQ.r1 (by unfold vp_in; decide) rfl ?_
        refine r_iconst (pc' := 51) (v := 3) h dX5_wakeOf_50 rfl (by decide) ?_
        refine r_icmp_ne (tgt := 59) (pc' := 54) h dX5_wakeOf_51 (by decide) rfl (fun c3 => ?_) (fun c3 => ?_)
        · refine r_iconst (pc' := 60) (v := 0) h dX5_wakeOf_59 rfl (by decide) ?_
          refine r_istore (pc' := 62) h dX5_wakeOf_60 rfl (by decide) rfl ?_
          refine r_aload_n (pc' := 63) h dX5_wakeOf_62 rfl rfl ?_
          refine r_aload_n (pc' := 64) h dX5_wakeOf_63 rfl rfl ?_
          refine r_iload_n (pc' := 65) h dX5_wakeOf_64 rfl rfl ?_
          refine r_iconst (pc' := 66) (v := 0) h dX5_wakeOf_65 rfl (by decide) ?_
          refine r_callV2 (pc' := 69) (M := mX5_t) h hm dX5_wakeOf_66 rfl lX5_57 vX5_t rfl hQ.l0 hQ.o (Nat.le_of_ble_eq_true rfl) (rrb rfl) (kX5_t hQ (ix_T (w := 0) (ht) (by decide)) ?_)
          show AW X G _ _ _ _ _ _ _ _
          refine r_iload_n (pc' := 70) h dX5_wakeOf_69 rfl rfl ?_
          refine r_iadd (pc' := 71) h dX5_wakeOf_70 rfl ?_
          refine r_aload_n (pc' := 72) h dX5_wakeOf_71 rfl rfl ?_
          refine r_iload_n (pc' := 73) h dX5_wakeOf_72 rfl rfl ?_
          refine r_iconst (pc' := 74) (v := 1) h dX5_wakeOf_73 rfl (by decide) ?_
          refine r_callV2 (pc' := 77) (M := mX5_t) h hm dX5_wakeOf_74 rfl lX5_57 vX5_t rfl hQ.l0 hQ.o (Nat.le_of_ble_eq_true rfl) (rrb rfl) (kX5_t hQ (ix_T (w := 1) (ht) (by decide)) ?_)
          show AW X G _ _ _ _ _ _ _ _
          refine r_iload (pc' := 79) h dX5_wakeOf_77 rfl rfl ?_
          refine r_iadd (pc' := 80) h dX5_wakeOf_79 rfl ?_
          refine r_callV2 (pc' := 83) (M := mX5_inCell) h hm dX5_wakeOf_80 rfl lX5_61 vX5_inCell rfl hQ.l0 hQ.o (Nat.le_of_ble_eq_true rfl) (rrb rfl) (kX5_inCell hQ hw ?_)
          show AW X G _ _ _ _ _ _ _ _
          refine r_istore (pc' := 85) h dX5_wakeOf_83 rfl (by decide) rfl ?_
          refine r_iload (pc' := 87) h dX5_wakeOf_85 rfl rfl ?_
          refine r_if_lt (tgt := 104) (pc' := 90) h dX5_wakeOf_87 (by decide) rfl (fun c4 => ?_) (fun c4 => ?_)
          · refine r_iconst (pc' := 105) (v := 0) h dX5_wakeOf_104 rfl (by decide) ?_
            refine r_ireturn h hm dX5_wakeOf_105 (Nat.le_of_ble_eq_true rfl) (Nat.le_of_ble_eq_true rfl) ?_
            exact kI hk (by first | rfl | contradiction | simp_all [qWk, qDn, qRt])
          · have ht2 := qIn_in hw c4
            refine r_aload_n (pc' := 91) h dX5_wakeOf_90 rfl rfl ?_
            refine r_iload (pc' := 93) h dX5_wakeOf_91 rfl rfl ?_
            refine r_iconst (pc' := 94) (v := 3) h dX5_wakeOf_93 rfl (by decide) ?_
            refine r_callV2 (pc' := 97) (M := mX5_t) h hm dX5_wakeOf_94 rfl lX5_57 vX5_t rfl hQ.l0 hQ.o (Nat.le_of_ble_eq_true rfl) (rrb rfl) (kX5_t hQ (ix_T (w := 3) (ht2) (by decide)) ?_)
            show AW X G _ _ _ _ _ _ _ _
            refine r_if_ne (tgt := 104) (pc' := 100) h dX5_wakeOf_97 (by decide) rfl (fun c5 => ?_) (fun c5 => ?_)
            · refine r_iconst (pc' := 105) (v := 0) h dX5_wakeOf_104 rfl (by decide) ?_
              refine r_ireturn h hm dX5_wakeOf_105 (Nat.le_of_ble_eq_true rfl) (Nat.le_of_ble_eq_true rfl) ?_
              exact kI hk (by first | rfl | contradiction | simp_all [qWk, qDn, qRt])
            · refine r_iconst (pc' := 101) (v := 1) h dX5_wakeOf_100 rfl (by decide) ?_
              refine r_goto (tgt := 105) h dX5_wakeOf_101 (by decide) ?_
              refine r_ireturn h hm dX5_wakeOf_105 (Nat.le_of_ble_eq_true rfl) (Nat.le_of_ble_eq_true rfl) ?_
              exact kI hk (by first | rfl | contradiction | simp_all [qWk, qDn, qRt])
        · refine r_iload_n (pc' := 55) h dX5_wakeOf_54 rfl rfl ?_
          refine r_ineg (pc' := 56) h dX5_wakeOf_55 rfl ?_
          refine r_goto (tgt := 60) h dX5_wakeOf_56 (by decide) ?_
          refine r_istore (pc' := 62) h dX5_wakeOf_60 rfl (by decide) rfl ?_
          refine r_aload_n (pc' := 63) h dX5_wakeOf_62 rfl rfl ?_
          refine r_aload_n (pc' := 64) h dX5_wakeOf_63 rfl rfl ?_
          refine r_iload_n (pc' := 65) h dX5_wakeOf_64 rfl rfl ?_
          refine r_iconst (pc' := 66) (v := 0) h dX5_wakeOf_65 rfl (by decide) ?_
          refine r_callV2 (pc' := 69) (M := mX5_t) h hm dX5_wakeOf_66 rfl lX5_57 vX5_t rfl hQ.l0 hQ.o (Nat.le_of_ble_eq_true rfl) (rrb rfl) (kX5_t hQ (ix_T (w := 0) (ht) (by decide)) ?_)
          show AW X G _ _ _ _ _ _ _ _
          refine r_iload_n (pc' := 70) h dX5_wakeOf_69 rfl rfl ?_
          refine r_iadd (pc' := 71) h dX5_wakeOf_70 rfl ?_
          refine r_aload_n (pc' := 72) h dX5_wakeOf_71 rfl rfl ?_
          refine r_iload_n (pc' := 73) h dX5_wakeOf_72 rfl rfl ?_
          refine r_iconst (pc' := 74) (v := 1) h dX5_wakeOf_73 rfl (by decide) ?_
          refine r_callV2 (pc' := 77) (M := mX5_t) h hm dX5_wakeOf_74 rfl lX5_57 vX5_t rfl hQ.l0 hQ.o (Nat.le_of_ble_eq_true rfl) (rrb rfl) (kX5_t hQ (ix_T (w := 1) (ht) (by decide)) ?_)
          show AW X G _ _ _ _ _ _ _ _
          refine r_iload (pc' := 79) h dX5_wakeOf_77 rfl rfl ?_
          refine r_iadd (pc' := 80) h dX5_wakeOf_79 rfl ?_
          refine r_callV2 (pc' := 83) (M := mX5_inCell) h hm dX5_wakeOf_80 rfl lX5_61 vX5_inCell rfl hQ.l0 hQ.o (Nat.le_of_ble_eq_true rfl) (rrb rfl) (kX5_inCell hQ hw ?_)
          show AW X G _ _ _ _ _ _ _ _
          refine r_istore (pc' := 85) h dX5_wakeOf_83 rfl (by decide) rfl ?_
          refine r_iload (pc' := 87) h dX5_wakeOf_85 rfl rfl ?_
          refine r_if_lt (tgt := 104) (pc' := 90) h dX5_wakeOf_87 (by decide) rfl (fun c6 => ?_) (fun c6 => ?_)
          · refine r_iconst (pc' := 105) (v := 0) h dX5_wakeOf_104 rfl (by decide) ?_
            refine r_ireturn h hm dX5_wakeOf_105 (Nat.le_of_ble_eq_true rfl) (Nat.le_of_ble_eq_true rfl) ?_
            exact kI hk (by first | rfl | contradiction | simp_all [qWk, qDn, qRt])
          · have ht2 := qIn_in hw c6
            refine r_aload_n (pc' := 91) h dX5_wakeOf_90 rfl rfl ?_
            refine r_iload (pc' := 93) h dX5_wakeOf_91 rfl rfl ?_
            refine r_iconst (pc' := 94) (v := 3) h dX5_wakeOf_93 rfl (by decide) ?_
            refine r_callV2 (pc' := 97) (M := mX5_t) h hm dX5_wakeOf_94 rfl lX5_57 vX5_t rfl hQ.l0 hQ.o (Nat.le_of_ble_eq_true rfl) (rrb rfl) (kX5_t hQ (ix_T (w := 3) (ht2) (by decide)) ?_)
            show AW X G _ _ _ _ _ _ _ _
            refine r_if_ne (tgt := 104) (pc' := 100) h dX5_wakeOf_97 (by decide) rfl (fun c7 => ?_) (fun c7 => ?_)
            · refine r_iconst (pc' := 105) (v := 0) h dX5_wakeOf_104 rfl (by decide) ?_
              refine r_ireturn h hm dX5_wakeOf_105 (Nat.le_of_ble_eq_true rfl) (Nat.le_of_ble_eq_true rfl) ?_
              exact kI hk (by first | rfl | contradiction | simp_all [qWk, qDn, qRt])
            · refine r_iconst (pc' := 101) (v := 1) h dX5_wakeOf_100 rfl (by decide) ?_
              refine r_goto (tgt := 105) h dX5_wakeOf_101 (by decide) ?_
              refine r_ireturn h hm dX5_wakeOf_105 (Nat.le_of_ble_eq_true rfl) (Nat.le_of_ble_eq_true rfl) ?_
              exact kI hk (by first | rfl | contradiction | simp_all [qWk, qDn, qRt])
      · refine r_iload_n (pc' := 41) h dX5_wakeOf_40 rfl rfl ?_
        refine r_goto (tgt := 60) h dX5_wakeOf_41 (by decide) ?_
        refine r_istore (pc' := 62) h dX5_wakeOf_60 rfl (by decide) rfl ?_
        refine r_aload_n (pc' := 63) h dX5_wakeOf_62 rfl rfl ?_
        refine r_aload_n (pc' := 64) h dX5_wakeOf_63 rfl rfl ?_
        refine r_iload_n (pc' := 65) h dX5_wakeOf_64 rfl rfl ?_
        refine r_iconst (pc' := 66) (v := 0) h dX5_wakeOf_65 rfl (by decide) ?_
        refine r_callV2 (pc' := 69) (M := mX5_t) h hm dX5_wakeOf_66 rfl lX5_57 vX5_t rfl hQ.l0 hQ.o (Nat.le_of_ble_eq_true rfl) (rrb rfl) (kX5_t hQ (ix_T (w := 0) (ht) (by decide)) ?_)
        show AW X G _ _ _ _ _ _ _ _
        refine r_iload_n (pc' := 70) h dX5_wakeOf_69 rfl rfl ?_
        refine r_iadd (pc' := 71) h dX5_wakeOf_70 rfl ?_
        refine r_aload_n (pc' := 72) h dX5_wakeOf_71 rfl rfl ?_
        refine r_iload_n (pc' := 73) h dX5_wakeOf_72 rfl rfl ?_
        refine r_iconst (pc' := 74) (v := 1) h dX5_wakeOf_73 rfl (by decide) ?_
        refine r_callV2 (pc' := 77) (M := mX5_t) h hm dX5_wakeOf_74 rfl lX5_57 vX5_t rfl hQ.l0 hQ.o (Nat.le_of_ble_eq_true rfl) (rrb rfl) (kX5_t hQ (ix_T (w := 1) (ht) (by decide)) ?_)
        show AW X G _ _ _ _ _ _ _ _
        refine r_iload (pc' := 79) h dX5_wakeOf_77 rfl rfl ?_
        refine r_iadd (pc' := 80) h dX5_wakeOf_79 rfl ?_
        refine r_callV2 (pc' := 83) (M := mX5_inCell) h hm dX5_wakeOf_80 rfl lX5_61 vX5_inCell rfl hQ.l0 hQ.o (Nat.le_of_ble_eq_true rfl) (rrb rfl) (kX5_inCell hQ hw ?_)
        show AW X G _ _ _ _ _ _ _ _
        refine r_istore (pc' := 85) h dX5_wakeOf_83 rfl (by decide) rfl ?_
        refine r_iload (pc' := 87) h dX5_wakeOf_85 rfl rfl ?_
        refine r_if_lt (tgt := 104) (pc' := 90) h dX5_wakeOf_87 (by decide) rfl (fun c8 => ?_) (fun c8 => ?_)
        · refine r_iconst (pc' := 105) (v := 0) h dX5_wakeOf_104 rfl (by decide) ?_
          refine r_ireturn h hm dX5_wakeOf_105 (Nat.le_of_ble_eq_true rfl) (Nat.le_of_ble_eq_true rfl) ?_
          exact kI hk (by first | rfl | contradiction | simp_all [qWk, qDn, qRt])
        · have ht2 := qIn_in hw c8
          refine r_aload_n (pc' := 91) h dX5_wakeOf_90 rfl rfl ?_
          refine r_iload (pc' := 93) h dX5_wakeOf_91 rfl rfl ?_
          refine r_iconst (pc' := 94) (v := 3) h dX5_wakeOf_93 rfl (by decide) ?_
          refine r_callV2 (pc' := 97) (M := mX5_t) h hm dX5_wakeOf_94 rfl lX5_57 vX5_t rfl hQ.l0 hQ.o (Nat.le_of_ble_eq_true rfl) (rrb rfl) (kX5_t hQ (ix_T (w := 3) (ht2) (by decide)) ?_)
          show AW X G _ _ _ _ _ _ _ _
          refine r_if_ne (tgt := 104) (pc' := 100) h dX5_wakeOf_97 (by decide) rfl (fun c9 => ?_) (fun c9 => ?_)
          · refine r_iconst (pc' := 105) (v := 0) h dX5_wakeOf_104 rfl (by decide) ?_
            refine r_ireturn h hm dX5_wakeOf_105 (Nat.le_of_ble_eq_true rfl) (Nat.le_of_ble_eq_true rfl) ?_
            exact kI hk (by first | rfl | contradiction | simp_all [qWk, qDn, qRt])
          · refine r_iconst (pc' := 101) (v := 1) h dX5_wakeOf_100 rfl (by decide) ?_
            refine r_goto (tgt := 105) h dX5_wakeOf_101 (by decide) ?_
            refine r_ireturn h hm dX5_wakeOf_105 (Nat.le_of_ble_eq_true rfl) (Nat.le_of_ble_eq_true rfl) ?_
            exact kI hk (by first | rfl | contradiction | simp_all [qWk, qDn, qRt])
    · refine r_iload_n (pc' := 25) h dX5_wakeOf_24 rfl rfl ?_
      refine r_goto (tgt := 29) h dX5_wakeOf_25 (by decide) ?_
      refine r_istoren (j := 3) (pc' := 30) h rfl dX5_wakeOf_29 rfl (by decide) rfl ?_
      refine r_aload_n (pc' := 31) h dX5_wakeOf_30 rfl rfl ?_
      refine gX5_9 (pc' := 34) h dX5_wakeOf_31 rfl hQ.l0 hQ.o rfl ?_
      refine r_iconst (pc' := 35) (v := 1) h dX5_wakeOf_34 rfl (by decide) ?_
      refine r_ialdk (k0 := 1) (pc' := 36) h dX5_wakeOf_35 rfl hQ.l1 hQ.r1 (by unfold vp_in; decide) rfl ?_
      refine r_iconst (pc' := 37) (v := 1) h dX5_wakeOf_36 rfl (by decide) ?_
      refine r_icmp_ne (tgt := 44) (pc' := 40) h dX5_wakeOf_37 (by decide) rfl (fun c10 => ?_) (fun c10 => ?_)
      · refine r_aload_n (pc' := 45) h dX5_wakeOf_44 rfl rfl ?_
        refine gX5_9 (pc' := 48) h dX5_wakeOf_45 rfl hQ.l0 hQ.o rfl ?_
        refine r_iconst (pc' := 49) (v := 1) h dX5_wakeOf_48 rfl (by decide) ?_
        refine r_ialdk (k0 := 1) (pc' := 50) h dX5_wakeOf_49 rfl hQ.l1 hQ.r1 (by unfold vp_in; decide) rfl ?_
        refine r_iconst (pc' := 51) (v := 3) h dX5_wakeOf_50 rfl (by decide) ?_
        refine r_icmp_ne (tgt := 59) (pc' := 54) h dX5_wakeOf_51 (by decide) rfl (fun c11 => ?_) (fun c11 => ?_)
        · refine r_iconst (pc' := 60) (v := 0) h dX5_wakeOf_59 rfl (by decide) ?_
          refine r_istore (pc' := 62) h dX5_wakeOf_60 rfl (by decide) rfl ?_
          refine r_aload_n (pc' := 63) h dX5_wakeOf_62 rfl rfl ?_
          refine r_aload_n (pc' := 64) h dX5_wakeOf_63 rfl rfl ?_
          refine r_iload_n (pc' := 65) h dX5_wakeOf_64 rfl rfl ?_
          refine r_iconst (pc' := 66) (v := 0) h dX5_wakeOf_65 rfl (by decide) ?_
          refine r_callV2 (pc' := 69) (M := mX5_t) h hm dX5_wakeOf_66 rfl lX5_57 vX5_t rfl hQ.l0 hQ.o (Nat.le_of_ble_eq_true rfl) (rrb rfl) (kX5_t hQ (ix_T (w := 0) (ht) (by decide)) ?_)
          show AW X G _ _ _ _ _ _ _ _
          refine r_iload_n (pc' := 70) h dX5_wakeOf_69 rfl rfl ?_
          refine r_iadd (pc' := 71) h dX5_wakeOf_70 rfl ?_
          refine r_aload_n (pc' := 72) h dX5_wakeOf_71 rfl rfl ?_
          refine r_iload_n (pc' := 73) h dX5_wakeOf_72 rfl rfl ?_
          refine r_iconst (pc' := 74) (v := 1) h dX5_wakeOf_73 rfl (by decide) ?_
          refine r_callV2 (pc' := 77) (M := mX5_t) h hm dX5_wakeOf_74 rfl lX5_57 vX5_t rfl hQ.l0 hQ.o (Nat.le_of_ble_eq_true rfl) (rrb rfl) (kX5_t hQ (ix_T (w := 1) (ht) (by decide)) ?_)
          show AW X G _ _ _ _ _ _ _ _
          refine r_iload (pc' := 79) h dX5_wakeOf_77 rfl rfl ?_
          refine r_iadd (pc' := 80) h dX5_wakeOf_79 rfl ?_
          refine r_callV2 (pc' := 83) (M := mX5_inCell) h hm dX5_wakeOf_80 rfl lX5_61 vX5_inCell rfl hQ.l0 hQ.o (Nat.le_of_ble_eq_true rfl) (rrb rfl) (kX5_inCell hQ hw ?_)
          show AW X G _ _ _ _ _ _ _ _
          refine r_istore (pc' := 85) h dX5_wakeOf_83 rfl (by decide) rfl ?_
          refine r_iload (pc' := 87) h dX5_wakeOf_85 rfl rfl ?_
          refine r_if_lt (tgt := 104) (pc' := 90) h dX5_wakeOf_87 (by decide) rfl (fun c12 => ?_) (fun c12 => ?_)
          · refine r_iconst (pc' := 105) (v := 0) h dX5_wakeOf_104 rfl (by decide) ?_
            refine r_ireturn h hm dX5_wakeOf_105 (Nat.le_of_ble_eq_true rfl) (Nat.le_of_ble_eq_true rfl) ?_
            exact kI hk (by first | rfl | contradiction | simp_all [qWk, qDn, qRt])
          · have ht2 := qIn_in hw c12
            refine r_aload_n (pc' := 91) h dX5_wakeOf_90 rfl rfl ?_
            refine r_iload (pc' := 93) h dX5_wakeOf_91 rfl rfl ?_
            refine r_iconst (pc' := 94) (v := 3) h dX5_wakeOf_93 rfl (by decide) ?_
            refine r_callV2 (pc' := 97) (M := mX5_t) h hm dX5_wakeOf_94 rfl lX5_57 vX5_t rfl hQ.l0 hQ.o (Nat.le_of_ble_eq_true rfl) (rrb rfl) (kX5_t hQ (ix_T (w := 3) (ht2) (by decide)) ?_)
            show AW X G _ _ _ _ _ _ _ _
            refine r_if_ne (tgt := 104) (pc' := 100) h dX5_wakeOf_97 (by decide) rfl (fun c13 => ?_) (fun c13 => ?_)
            · refine r_iconst (pc' := 105) (v := 0) h dX5_wakeOf_104 rfl (by decide) ?_
              refine r_ireturn h hm dX5_wakeOf_105 (Nat.le_of_ble_eq_true rfl) (Nat.le_of_ble_eq_true rfl) ?_
              exact kI hk (by first | rfl | contradiction | simp_all [qWk, qDn, qRt])
            · refine r_iconst (pc' := 101) (v := 1) h dX5_wakeOf_100 rfl (by decide) ?_
              refine r_goto (tgt := 105) h dX5_wakeOf_101 (by decide) ?_
              refine r_ireturn h hm dX5_wakeOf_105 (Nat.le_of_ble_eq_true rfl) (Nat.le_of_ble_eq_true rfl) ?_
              exact kI hk (by first | rfl | contradiction | simp_all [qWk, qDn, qRt])
        · refine r_iload_n (pc' := 55) h dX5_wakeOf_54 rfl rfl ?_
          refine r_ineg (pc' := 56) h dX5_wakeOf_55 rfl ?_
          refine r_goto (tgt := 60) h dX5_wakeOf_56 (by decide) ?_
          refine r_istore (pc' := 62) h dX5_wakeOf_60 rfl (by decide) rfl ?_
          refine r_aload_n (pc' := 63) h dX5_wakeOf_62 rfl rfl ?_
          refine r_aload_n (pc' := 64) h dX5_wakeOf_63 rfl rfl ?_
          refine r_iload_n (pc' := 65) h dX5_wakeOf_64 rfl rfl ?_
          refine r_iconst (pc' := 66) (v := 0) h dX5_wakeOf_65 rfl (by decide) ?_
          refine r_callV2 (pc' := 69) (M := mX5_t) h hm dX5_wakeOf_66 rfl lX5_57 vX5_t rfl hQ.l0 hQ.o (Nat.le_of_ble_eq_true rfl) (rrb rfl) (kX5_t hQ (ix_T (w := 0) (ht) (by decide)) ?_)
          show AW X G _ _ _ _ _ _ _ _
          refine r_iload_n (pc' := 70) h dX5_wakeOf_69 rfl rfl ?_
          refine r_iadd (pc' := 71) h dX5_wakeOf_70 rfl ?_
          refine r_aload_n (pc' := 72) h dX5_wakeOf_71 rfl rfl ?_
          refine r_iload_n (pc' := 73) h dX5_wakeOf_72 rfl rfl ?_
          refine r_iconst (pc' := 74) (v := 1) h dX5_wakeOf_73 rfl (by decide) ?_
          refine r_callV2 (pc' := 77) (M := mX5_t) h hm dX5_wakeOf_74 rfl lX5_57 vX5_t rfl hQ.l0 hQ.o (Nat.le_of_ble_eq_true rfl) (rrb rfl) (kX5_t hQ (ix_T (w := 1) (ht) (by decide)) ?_)
          show AW X G _ _ _ _ _ _ _ _
          refine r_iload (pc' := 79) h dX5_wakeOf_77 rfl rfl ?_
          refine r_iadd (pc' := 80) h dX5_wakeOf_79 rfl ?_
          refine r_callV2 (pc' := 83) (M := mX5_inCell) h hm dX5_wakeOf_80 rfl lX5_61 vX5_inCell rfl hQ.l0 hQ.o (Nat.le_of_ble_eq_true rfl) (rrb rfl) (kX5_inCell hQ hw ?_)
          show AW X G _ _ _ _ _ _ _ _
          refine r_istore (pc' := 85) h dX5_wakeOf_83 rfl (by decide) rfl ?_
          refine r_iload (pc' := 87) h dX5_wakeOf_85 rfl rfl ?_
          refine r_if_lt (tgt := 104) (pc' := 90) h dX5_wakeOf_87 (by decide) rfl (fun c14 => ?_) (fun c14 => ?_)
          · refine r_iconst (pc' := 105) (v := 0) h dX5_wakeOf_104 rfl (by decide) ?_
            refine r_ireturn h hm dX5_wakeOf_105 (Nat.le_of_ble_eq_true rfl) (Nat.le_of_ble_eq_true rfl) ?_
            exact kI hk (by first | rfl | contradiction | simp_all [qWk, qDn, qRt])
          · have ht2 := qIn_in hw c14
            refine r_aload_n (pc' := 91) h dX5_wakeOf_90 rfl rfl ?_
            refine r_iload (pc' := 93) h dX5_wakeOf_91 rfl rfl ?_
            refine r_iconst (pc' := 94) (v := 3) h dX5_wakeOf_93 rfl (by decide) ?_
            refine r_callV2 (pc' := 97) (M := mX5_t) h hm dX5_wakeOf_94 rfl lX5_57 vX5_t rfl hQ.l0 hQ.o (Nat.le_of_ble_eq_true rfl) (rrb rfl) (kX5_t hQ (ix_T (w := 3) (ht2) (by decide)) ?_)
            show AW X G _ _ _ _ _ _ _ _
            refine r_if_ne (tgt := 104) (pc' := 100) h dX5_wakeOf_97 (by decide) rfl (fun c15 => ?_) (fun c15 => ?_)
            · refine r_iconst (pc' := 105) (v := 0) h dX5_wakeOf_104 rfl (by decide) ?_
              refine r_ireturn h hm dX5_wakeOf_105 (Nat.le_of_ble_eq_true rfl) (Nat.le_of_ble_eq_true rfl) ?_
              exact kI hk (by first | rfl | contradiction | simp_all [qWk, qDn, qRt])
            · refine r_iconst (pc' := 101) (v := 1) h dX5_wakeOf_100 rfl (by decide) ?_
              refine r_goto (tgt := 105) h dX5_wakeOf_101 (by decide) ?_
              refine r_ireturn h hm dX5_wakeOf_105 (Nat.le_of_ble_eq_true rfl) (Nat.le_of_ble_eq_true rfl) ?_
              exact kI hk (by first | rfl | contradiction | simp_all [qWk, qDn, qRt])
      · refine r_iload_n (pc' := 41) h dX5_wakeOf_40 rfl rfl ?_
        refine r_goto (tgt := 60) h dX5_wakeOf_41 (by decide) ?_
        refine r_istore (pc' := 62) h dX5_wakeOf_60 rfl (by decide) rfl ?_
        refine r_aload_n (pc' := 63) h dX5_wakeOf_62 rfl rfl ?_
        refine r_aload_n (pc' := 64) h dX5_wakeOf_63 rfl rfl ?_
        refine r_iload_n (pc' := 65) h dX5_wakeOf_64 rfl rfl ?_
        refine r_iconst (pc' := 66) (v := 0) h dX5_wakeOf_65 rfl (by decide) ?_
        refine r_callV2 (pc' := 69) (M := mX5_t) h hm dX5_wakeOf_66 rfl lX5_57 vX5_t rfl hQ.l0 hQ.o (Nat.le_of_ble_eq_true rfl) (rrb rfl) (kX5_t hQ (ix_T (w := 0) (ht) (by decide)) ?_)
        show AW X G _ _ _ _ _ _ _ _
        refine r_iload_n (pc' := 70) h dX5_wakeOf_69 rfl rfl ?_
        refine r_iadd (pc' := 71) h dX5_wakeOf_70 rfl ?_
        refine r_aload_n (pc' := 72) h dX5_wakeOf_71 rfl rfl ?_
        refine r_iload_n (pc' := 73) h dX5_wakeOf_72 rfl rfl ?_
        refine r_iconst (pc' := 74) (v := 1) h dX5_wakeOf_73 rfl (by decide) ?_
        refine r_callV2 (pc' := 77) (M := mX5_t) h hm dX5_wakeOf_74 rfl lX5_57 vX5_t rfl hQ.l0 hQ.o (Nat.le_of_ble_eq_true rfl) (rrb rfl) (kX5_t hQ (ix_T (w := 1) (ht) (by decide)) ?_)
        show AW X G _ _ _ _ _ _ _ _
        refine r_iload (pc' := 79) h dX5_wakeOf_77 rfl rfl ?_
        refine r_iadd (pc' := 80) h dX5_wakeOf_79 rfl ?_
        refine r_callV2 (pc' := 83) (M := mX5_inCell) h hm dX5_wakeOf_80 rfl lX5_61 vX5_inCell rfl hQ.l0 hQ.o (Nat.le_of_ble_eq_true rfl) (rrb rfl) (kX5_inCell hQ hw ?_)
        show AW X G _ _ _ _ _ _ _ _
        refine r_istore (pc' := 85) h dX5_wakeOf_83 rfl (by decide) rfl ?_
        refine r_iload (pc' := 87) h dX5_wakeOf_85 rfl rfl ?_
        refine r_if_lt (tgt := 104) (pc' := 90) h dX5_wakeOf_87 (by decide) rfl (fun c16 => ?_) (fun c16 => ?_)
        · refine r_iconst (pc' := 105) (v := 0) h dX5_wakeOf_104 rfl (by decide) ?_
          refine r_ireturn h hm dX5_wakeOf_105 (Nat.le_of_ble_eq_true rfl) (Nat.le_of_ble_eq_true rfl) ?_
          exact kI hk (by first | rfl | contradiction | simp_all [qWk, qDn, qRt])
        · have ht2 := qIn_in hw c16
          refine r_aload_n (pc' := 91) h dX5_wakeOf_90 rfl rfl ?_
          refine r_iload (pc' := 93) h dX5_wakeOf_91 rfl rfl ?_
          refine r_iconst (pc' := 94) (v := 3) h dX5_wakeOf_93 rfl (by decide) ?_
          refine r_callV2 (pc' := 97) (M := mX5_t) h hm dX5_wakeOf_94 rfl lX5_57 vX5_t rfl hQ.l0 hQ.o (Nat.le_of_ble_eq_true rfl) (rrb rfl) (kX5_t hQ (ix_T (w := 3) (ht2) (by decide)) ?_)
          show AW X G _ _ _ _ _ _ _ _
          refine r_if_ne (tgt := 104) (pc' := 100) h dX5_wakeOf_97 (by decide) rfl (fun c17 => ?_) (fun c17 => ?_)
          · refine r_iconst (pc' := 105) (v := 0) h dX5_wakeOf_104 rfl (by decide) ?_
            refine r_ireturn h hm dX5_wakeOf_105 (Nat.le_of_ble_eq_true rfl) (Nat.le_of_ble_eq_true rfl) ?_
            exact kI hk (by first | rfl | contradiction | simp_all [qWk, qDn, qRt])
          · refine r_iconst (pc' := 101) (v := 1) h dX5_wakeOf_100 rfl (by decide) ?_
            refine r_goto (tgt := 105) h dX5_wakeOf_101 (by decide) ?_
            refine r_ireturn h hm dX5_wakeOf_105 (Nat.le_of_ble_eq_true rfl) (Nat.le_of_ble_eq_true rfl) ?_
            exact kI hk (by first | rfl | contradiction | simp_all [qWk, qDn, qRt])
  · refine r_iload_n (pc' := 10) h dX5_wakeOf_9 rfl rfl ?_
    refine r_ineg (pc' := 11) h dX5_wakeOf_10 rfl ?_
    refine r_goto (tgt := 29) h dX5_wakeOf_11 (by decide) ?_
    refine r_istoren (j := 3) (pc' := 30) h rfl dX5_wakeOf_29 rfl (by decide) rfl ?_
    refine r_aload_n (pc' := 31) h dX5_wakeOf_30 rfl rfl ?_
    refine gX5_9 (pc' := 34) h dX5_wakeOf_31 rfl hQ.l0 hQ.o rfl ?_
    refine r_iconst (pc' := 35) (v := 1) h dX5_wakeOf_34 rfl (by decide) ?_
    refine r_ialdk (k0 := 1) (pc' := 36) h dX5_wakeOf_35 rfl hQ.l1 hQ.r1 (by unfold vp_in; decide) rfl ?_
    refine r_iconst (pc' := 37) (v := 1) h dX5_wakeOf_36 rfl (by decide) ?_
    refine r_icmp_ne (tgt := 44) (pc' := 40) h dX5_wakeOf_37 (by decide) rfl (fun c18 => ?_) (fun c18 => ?_)
    · refine r_aload_n (pc' := 45) h dX5_wakeOf_44 rfl rfl ?_
      refine gX5_9 (pc' := 48) h dX5_wakeOf_45 rfl hQ.l0 hQ.o rfl ?_
      refine r_iconst (pc' := 49) (v := 1) h dX5_wakeOf_48 rfl (by decide) ?_
      refine r_ialdk (k0 := 1) (pc' := 50) h dX5_wakeOf_49 rfl hQ.l1 hQ.r1 (by unfold vp_in; decide) rfl ?_
      refine r_iconst (pc' := 51) (v := 3) h dX5_wakeOf_50 rfl (by decide) ?_
      refine r_icmp_ne (tgt := 59) (pc' := 54) h dX5_wakeOf_51 (by decide) rfl (fun c19 => ?_) (fun c19 => ?_)
      · refine r_iconst (pc' := 60) (v := 0) h dX5_wakeOf_59 rfl (by decide) ?_
        refine r_istore (pc' := 62) h dX5_wakeOf_60 rfl (by decide) rfl ?_
        refine r_aload_n (pc' := 63) h dX5_wakeOf_62 rfl rfl ?_
        refine r_aload_n (pc' := 64) h dX5_wakeOf_63 rfl rfl ?_
        refine r_iload_n (pc' := 65) h dX5_wakeOf_64 rfl rfl ?_
        refine r_iconst (pc' := 66) (v := 0) h dX5_wakeOf_65 rfl (by decide) ?_
        refine r_callV2 (pc' := 69) (M := mX5_t) h hm dX5_wakeOf_66 rfl lX5_57 vX5_t rfl hQ.l0 hQ.o (Nat.le_of_ble_eq_true rfl) (rrb rfl) (kX5_t hQ (ix_T (w := 0) (ht) (by decide)) ?_)
        show AW X G _ _ _ _ _ _ _ _
        refine r_iload_n (pc' := 70) h dX5_wakeOf_69 rfl rfl ?_
        refine r_iadd (pc' := 71) h dX5_wakeOf_70 rfl ?_
        refine r_aload_n (pc' := 72) h dX5_wakeOf_71 rfl rfl ?_
        refine r_iload_n (pc' := 73) h dX5_wakeOf_72 rfl rfl ?_
        refine r_iconst (pc' := 74) (v := 1) h dX5_wakeOf_73 rfl (by decide) ?_
        refine r_callV2 (pc' := 77) (M := mX5_t) h hm dX5_wakeOf_74 rfl lX5_57 vX5_t rfl hQ.l0 hQ.o (Nat.le_of_ble_eq_true rfl) (rrb rfl) (kX5_t hQ (ix_T (w := 1) (ht) (by decide)) ?_)
        show AW X G _ _ _ _ _ _ _ _
        refine r_iload (pc' := 79) h dX5_wakeOf_77 rfl rfl ?_
        refine r_iadd (pc' := 80) h dX5_wakeOf_79 rfl ?_
        refine r_callV2 (pc' := 83) (M := mX5_inCell) h hm dX5_wakeOf_80 rfl lX5_61 vX5_inCell rfl hQ.l0 hQ.o (Nat.le_of_ble_eq_true rfl) (rrb rfl) (kX5_inCell hQ hw ?_)
        show AW X G _ _ _ _ _ _ _ _
        refine r_istore (pc' := 85) h dX5_wakeOf_83 rfl (by decide) rfl ?_
        refine r_iload (pc' := 87) h dX5_wakeOf_85 rfl rfl ?_
        refine r_if_lt (tgt := 104) (pc' := 90) h dX5_wakeOf_87 (by decide) rfl (fun c20 => ?_) (fun c20 => ?_)
        · refine r_iconst (pc' := 105) (v := 0) h dX5_wakeOf_104 rfl (by decide) ?_
          refine r_ireturn h hm dX5_wakeOf_105 (Nat.le_of_ble_eq_true rfl) (Nat.le_of_ble_eq_true rfl) ?_
          exact kI hk (by first | rfl | contradiction | simp_all [qWk, qDn, qRt])
        · have ht2 := qIn_in hw c20
          refine r_aload_n (pc' := 91) h dX5_wakeOf_90 rfl rfl ?_
          refine r_iload (pc' := 93) h dX5_wakeOf_91 rfl rfl ?_
          refine r_iconst (pc' := 94) (v := 3) h dX5_wakeOf_93 rfl (by decide) ?_
          refine r_callV2 (pc' := 97) (M := mX5_t) h hm dX5_wakeOf_94 rfl lX5_57 vX5_t rfl hQ.l0 hQ.o (Nat.le_of_ble_eq_true rfl) (rrb rfl) (kX5_t hQ (ix_T (w := 3) (ht2) (by decide)) ?_)
          show AW X G _ _ _ _ _ _ _ _
          refine r_if_ne (tgt := 104) (pc' := 100) h dX5_wakeOf_97 (by decide) rfl (fun c21 => ?_) (fun c21 => ?_)
          · refine r_iconst (pc' := 105) (v := 0) h dX5_wakeOf_104 rfl (by decide) ?_
            refine r_ireturn h hm dX5_wakeOf_105 (Nat.le_of_ble_eq_true rfl) (Nat.le_of_ble_eq_true rfl) ?_
            exact kI hk (by first | rfl | contradiction | simp_all [qWk, qDn, qRt])
          · refine r_iconst (pc' := 101) (v := 1) h dX5_wakeOf_100 rfl (by decide) ?_
            refine r_goto (tgt := 105) h dX5_wakeOf_101 (by decide) ?_
            refine r_ireturn h hm dX5_wakeOf_105 (Nat.le_of_ble_eq_true rfl) (Nat.le_of_ble_eq_true rfl) ?_
            exact kI hk (by first | rfl | contradiction | simp_all [qWk, qDn, qRt])
      · refine r_iload_n (pc' := 55) h dX5_wakeOf_54 rfl rfl ?_
        refine r_ineg (pc' := 56) h dX5_wakeOf_55 rfl ?_
        refine r_goto (tgt := 60) h dX5_wakeOf_56 (by decide) ?_
        refine r_istore (pc' := 62) h dX5_wakeOf_60 rfl (by decide) rfl ?_
        refine r_aload_n (pc' := 63) h dX5_wakeOf_62 rfl rfl ?_
        refine r_aload_n (pc' := 64) h dX5_wakeOf_63 rfl rfl ?_
        refine r_iload_n (pc' := 65) h dX5_wakeOf_64 rfl rfl ?_
        refine r_iconst (pc' := 66) (v := 0) h dX5_wakeOf_65 rfl (by decide) ?_
        refine r_callV2 (pc' := 69) (M := mX5_t) h hm dX5_wakeOf_66 rfl lX5_57 vX5_t rfl hQ.l0 hQ.o (Nat.le_of_ble_eq_true rfl) (rrb rfl) (kX5_t hQ (ix_T (w := 0) (ht) (by decide)) ?_)
        show AW X G _ _ _ _ _ _ _ _
        refine r_iload_n (pc' := 70) h dX5_wakeOf_69 rfl rfl ?_
        refine r_iadd (pc' := 71) h dX5_wakeOf_70 rfl ?_
        refine r_aload_n (pc' := 72) h dX5_wakeOf_71 rfl rfl ?_
        refine r_iload_n (pc' := 73) h dX5_wakeOf_72 rfl rfl ?_
        refine r_iconst (pc' := 74) (v := 1) h dX5_wakeOf_73 rfl (by decide) ?_
        refine r_callV2 (pc' := 77) (M := mX5_t) h hm dX5_wakeOf_74 rfl lX5_57 vX5_t rfl hQ.l0 hQ.o (Nat.le_of_ble_eq_true rfl) (rrb rfl) (kX5_t hQ (ix_T (w := 1) (ht) (by decide)) ?_)
        show AW X G _ _ _ _ _ _ _ _
        refine r_iload (pc' := 79) h dX5_wakeOf_77 rfl rfl ?_
        refine r_iadd (pc' := 80) h dX5_wakeOf_79 rfl ?_
        refine r_callV2 (pc' := 83) (M := mX5_inCell) h hm dX5_wakeOf_80 rfl lX5_61 vX5_inCell rfl hQ.l0 hQ.o (Nat.le_of_ble_eq_true rfl) (rrb rfl) (kX5_inCell hQ hw ?_)
        show AW X G _ _ _ _ _ _ _ _
        refine r_istore (pc' := 85) h dX5_wakeOf_83 rfl (by decide) rfl ?_
        refine r_iload (pc' := 87) h dX5_wakeOf_85 rfl rfl ?_
        refine r_if_lt (tgt := 104) (pc' := 90) h dX5_wakeOf_87 (by decide) rfl (fun c22 => ?_) (fun c22 => ?_)
        · refine r_iconst (pc' := 105) (v := 0) h dX5_wakeOf_104 rfl (by decide) ?_
          refine r_ireturn h hm dX5_wakeOf_105 (Nat.le_of_ble_eq_true rfl) (Nat.le_of_ble_eq_true rfl) ?_
          exact kI hk (by first | rfl | contradiction | simp_all [qWk, qDn, qRt])
        · have ht2 := qIn_in hw c22
          refine r_aload_n (pc' := 91) h dX5_wakeOf_90 rfl rfl ?_
          refine r_iload (pc' := 93) h dX5_wakeOf_91 rfl rfl ?_
          refine r_iconst (pc' := 94) (v := 3) h dX5_wakeOf_93 rfl (by decide) ?_
          refine r_callV2 (pc' := 97) (M := mX5_t) h hm dX5_wakeOf_94 rfl lX5_57 vX5_t rfl hQ.l0 hQ.o (Nat.le_of_ble_eq_true rfl) (rrb rfl) (kX5_t hQ (ix_T (w := 3) (ht2) (by decide)) ?_)
          show AW X G _ _ _ _ _ _ _ _
          refine r_if_ne (tgt := 104) (pc' := 100) h dX5_wakeOf_97 (by decide) rfl (fun c23 => ?_) (fun c23 => ?_)
          · refine r_iconst (pc' := 105) (v := 0) h dX5_wakeOf_104 rfl (by decide) ?_
            refine r_ireturn h hm dX5_wakeOf_105 (Nat.le_of_ble_eq_true rfl) (Nat.le_of_ble_eq_true rfl) ?_
            exact kI hk (by first | rfl | contradiction | simp_all [qWk, qDn, qRt])
          · refine r_iconst (pc' := 101) (v := 1) h dX5_wakeOf_100 rfl (by decide) ?_
            refine r_goto (tgt := 105) h dX5_wakeOf_101 (by decide) ?_
            refine r_ireturn h hm dX5_wakeOf_105 (Nat.le_of_ble_eq_true rfl) (Nat.le_of_ble_eq_true rfl) ?_
            exact kI hk (by first | rfl | contradiction | simp_all [qWk, qDn, qRt])
    · refine r_iload_n (pc' := 41) h dX5_wakeOf_40 rfl rfl ?_
      refine r_goto (tgt := 60) h dX5_wakeOf_41 (by decide) ?_
      refine r_istore (pc' := 62) h dX5_wakeOf_60 rfl (by decide) rfl ?_
      refine r_aload_n (pc' := 63) h dX5_wakeOf_62 rfl rfl ?_
      refine r_aload_n (pc' := 64) h dX5_wakeOf_63 rfl rfl ?_
      refine r_iload_n (pc' := 65) h dX5_wakeOf_64 rfl rfl ?_
      refine r_iconst (pc' := 66) (v := 0) h dX5_wakeOf_65 rfl (by decide) ?_
      refine r_callV2 (pc' := 69) (M := mX5_t) h hm dX5_wakeOf_66 rfl lX5_57 vX5_t rfl hQ.l0 hQ.o (Nat.le_of_ble_eq_true rfl) (rrb rfl) (kX5_t hQ (ix_T (w := 0) (ht) (by decide)) ?_)
      show AW X G _ _ _ _ _ _ _ _
      refine r_iload_n (pc' := 70) h dX5_wakeOf_69 rfl rfl ?_
      refine r_iadd (pc' := 71) h dX5_wakeOf_70 rfl ?_
      refine r_aload_n (pc' := 72) h dX5_wakeOf_71 rfl rfl ?_
      refine r_iload_n (pc' := 73) h dX5_wakeOf_72 rfl rfl ?_
      refine r_iconst (pc' := 74) (v := 1) h dX5_wakeOf_73 rfl (by decide) ?_
      refine r_callV2 (pc' := 77) (M := mX5_t) h hm dX5_wakeOf_74 rfl lX5_57 vX5_t rfl hQ.l0 hQ.o (Nat.le_of_ble_eq_true rfl) (rrb rfl) (kX5_t hQ (ix_T (w := 1) (ht) (by decide)) ?_)
      show AW X G _ _ _ _ _ _ _ _
      refine r_iload (pc' := 79) h dX5_wakeOf_77 rfl rfl ?_
      refine r_iadd (pc' := 80) h dX5_wakeOf_79 rfl ?_
      refine r_callV2 (pc' := 83) (M := mX5_inCell) h hm dX5_wakeOf_80 rfl lX5_61 vX5_inCell rfl hQ.l0 hQ.o (Nat.le_of_ble_eq_true rfl) (rrb rfl) (kX5_inCell hQ hw ?_)
      show AW X G _ _ _ _ _ _ _ _
      refine r_istore (pc' := 85) h dX5_wakeOf_83 rfl (by decide) rfl ?_
      refine r_iload (pc' := 87) h dX5_wakeOf_85 rfl rfl ?_
      refine r_if_lt (tgt := 104) (pc' := 90) h dX5_wakeOf_87 (by decide) rfl (fun c24 => ?_) (fun c24 => ?_)
      · refine r_iconst (pc' := 105) (v := 0) h dX5_wakeOf_104 rfl (by decide) ?_
        refine r_ireturn h hm dX5_wakeOf_105 (Nat.le_of_ble_eq_true rfl) (Nat.le_of_ble_eq_true rfl) ?_
        exact kI hk (by first | rfl | contradiction | simp_all [qWk, qDn, qRt])
      · have ht2 := qIn_in hw c24
        refine r_aload_n (pc' := 91) h dX5_wakeOf_90 rfl rfl ?_
        refine r_iload (pc' := 93) h dX5_wakeOf_91 rfl rfl ?_
        refine r_iconst (pc' := 94) (v := 3) h dX5_wakeOf_93 rfl (by decide) ?_
        refine r_callV2 (pc' := 97) (M := mX5_t) h hm dX5_wakeOf_94 rfl lX5_57 vX5_t rfl hQ.l0 hQ.o (Nat.le_of_ble_eq_true rfl) (rrb rfl) (kX5_t hQ (ix_T (w := 3) (ht2) (by decide)) ?_)
        show AW X G _ _ _ _ _ _ _ _
        refine r_if_ne (tgt := 104) (pc' := 100) h dX5_wakeOf_97 (by decide) rfl (fun c25 => ?_) (fun c25 => ?_)
        · refine r_iconst (pc' := 105) (v := 0) h dX5_wakeOf_104 rfl (by decide) ?_
          refine r_ireturn h hm dX5_wakeOf_105 (Nat.le_of_ble_eq_true rfl) (Nat.le_of_ble_eq_true rfl) ?_
          exact kI hk (by first | rfl | contradiction | simp_all [qWk, qDn, qRt])
        · refine r_iconst (pc' := 101) (v := 1) h dX5_wakeOf_100 rfl (by decide) ?_
          refine r_goto (tgt := 105) h dX5_wakeOf_101 (by decide) ?_
          refine r_ireturn h hm dX5_wakeOf_105 (Nat.le_of_ble_eq_true rfl) (Nat.le_of_ble_eq_true rfl) ?_
          exact kI hk (by first | rfl | contradiction | simp_all [qWk, qDn, qRt])
theorem kX5_lossOf {l : Launch} {G : GX} {N : Nat} {S : Nat → va_E} {K : RK} {Q : MM} (hQ : isM G N S Q) (hw : wM (mM Q)) {t : Int32} (ht : vp_in t 12) (hk : K (.inl (some (.int (qLo (mM Q) t)))) S) : RetK l G N mX5_lossOf (3, 70, 0, 0) [.ref (ad G 119), .int t] S K := by
  refine ret_enter (by decide +kernel) (Nat.le_of_ble_eq_true rfl) (fun X hX h hm => ?_)
  subst hX
  replace h : OK X G N cX5_lossOf RX5 2 (3, 70, 0, 0) := h
  replace hm : OKm X G N K (some .int) (3, 70, 0, 0) := hm
  show AW X G 2 N 0 [(0, _), (1, _)] [] S 0 0
  refine r_iconst (pc' := 1) (v := 3) h dX5_lossOf_0 rfl (by decide) ?_
  refine r_aload_n (pc' := 2) h dX5_lossOf_1 rfl rfl ?_
  refine r_iload_n (pc' := 3) h dX5_lossOf_2 rfl rfl ?_
  refine r_iconst (pc' := 4) (v := 1) h dX5_lossOf_3 rfl (by decide) ?_
  refine r_callV2 (pc' := 7) (M := mX5_wakeOf) h hm dX5_lossOf_4 rfl lX5_64 vX5_wakeOf rfl hQ.l0 hQ.o (Nat.le_of_ble_eq_true rfl) (rrb rfl) (kX5_wakeOf hQ hw (ht) ?_)
  show AW X G _ _ _ _ _ _ _ _
  refine r_imul (pc' := 8) h dX5_lossOf_7 rfl ?_
  refine r_aload_n (pc' := 9) h dX5_lossOf_8 rfl rfl ?_
  refine r_iload_n (pc' := 10) h dX5_lossOf_9 rfl rfl ?_
  refine r_iconst (pc' := 11) (v := 2) h dX5_lossOf_10 rfl (by decide) ?_
  refine r_callV2 (pc' := 14) (M := mX5_wakeOf) h hm dX5_lossOf_11 rfl lX5_64 vX5_wakeOf rfl hQ.l0 hQ.o (Nat.le_of_ble_eq_true rfl) (rrb rfl) (kX5_wakeOf hQ hw (ht) ?_)
  show AW X G _ _ _ _ _ _ _ _
  refine r_iadd (pc' := 15) h dX5_lossOf_14 rfl ?_
  refine r_ireturn h hm dX5_lossOf_15 (Nat.le_of_ble_eq_true rfl) (Nat.le_of_ble_eq_true rfl) ?_
  exact kI hk (by first | rfl | contradiction | simp [qLo])
theorem kX5_available {l : Launch} {G : GX} {N : Nat} {S : Nat → va_E} {K : RK} {Q : MM} (hQ : isM G N S Q) (hw : wM (mM Q)) {t : Int32} (ht : vp_in t 12) (hk : K (.inl (some (.int (qAv (mM Q) t)))) S) : RetK l G N mX5_available (4, 91, 0, 0) [.ref (ad G 119), .int t] S K := by
  refine ret_enter (by decide +kernel) (Nat.le_of_ble_eq_true rfl) (fun X hX h hm => ?_)
  subst hX
  replace h : OK X G N cX5_available RX5 3 (4, 91, 0, 0) := h
  replace hm : OKm X G N K (some .int) (4, 91, 0, 0) := hm
  show AW X G 3 N 0 [(0, _), (1, _)] [] S 0 0
  refine r_aload_n (pc' := 1) h dX5_available_0 rfl rfl ?_
  refine gX5_9 (pc' := 4) h dX5_available_1 rfl hQ.l0 hQ.o rfl ?_
  refine r_iconst (pc' := 5) (v := 2) h dX5_available_4 rfl (by decide) ?_
  refine r_ialdk (k0 := 2) (pc' := 6) h dX5_available_5 rfl hQ.l1 hQ.r1 (by unfold vp_in; decide) rfl ?_
  refine r_callS1 (pc' := 9) (M := mX5_factorOf) h hm dX5_available_6 rfl lX5_67 vX5_factorOf (Nat.le_of_ble_eq_true rfl) (rrb rfl) (kX5_factorOf ?_)
  show AW X G _ _ _ _ _ _ _ _
  refine r_aload_n (pc' := 10) h dX5_available_9 rfl rfl ?_
  refine r_iload_n (pc' := 11) h dX5_available_10 rfl rfl ?_
  refine r_callV1 (pc' := 14) (M := mX5_lossOf) h hm dX5_available_11 rfl lX5_71 vX5_lossOf rfl hQ.l0 hQ.o (Nat.le_of_ble_eq_true rfl) (rrb rfl) (kX5_lossOf hQ hw (ht) ?_)
  show AW X G _ _ _ _ _ _ _ _
  refine r_isub (pc' := 15) h dX5_available_14 rfl ?_
  refine r_istoren (j := 2) (pc' := 16) h rfl dX5_available_15 rfl (by decide) rfl ?_
  refine r_aload_n (pc' := 17) h dX5_available_16 rfl rfl ?_
  refine r_iload_n (pc' := 18) h dX5_available_17 rfl rfl ?_
  refine r_iconst (pc' := 19) (v := 3) h dX5_available_18 rfl (by decide) ?_
  refine r_callV2 (pc' := 22) (M := mX5_t) h hm dX5_available_19 rfl lX5_57 vX5_t rfl hQ.l0 hQ.o (Nat.le_of_ble_eq_true rfl) (rrb rfl) (kX5_t hQ (ix_T (w := 3) (ht) (by decide)) ?_)
  show AW X G _ _ _ _ _ _ _ _
  refine r_if_ne (tgt := 29) (pc' := 25) h dX5_available_22 (by decide) rfl (fun c0 => ?_) (fun c0 => ?_)
  · refine r_iconst (pc' := 30) (v := 0) h dX5_available_29 rfl (by decide) ?_
    refine r_goto (tgt := 41) h dX5_available_30 (by decide) ?_
    refine r_ireturn h hm dX5_available_41 (Nat.le_of_ble_eq_true rfl) (Nat.le_of_ble_eq_true rfl) ?_
    exact kI hk (by first | rfl | contradiction | simp [qAv, Int32.not_le, Int32.not_lt, c0])
  · refine r_iload_n (pc' := 26) h dX5_available_25 rfl rfl ?_
    refine r_if_ge (tgt := 33) (pc' := 29) h dX5_available_26 (by decide) rfl (fun c1 => ?_) (fun c1 => ?_)
    · refine r_aload_n (pc' := 34) h dX5_available_33 rfl rfl ?_
      refine r_iload_n (pc' := 35) h dX5_available_34 rfl rfl ?_
      refine r_iconst (pc' := 36) (v := 2) h dX5_available_35 rfl (by decide) ?_
      refine r_callV2 (pc' := 39) (M := mX5_t) h hm dX5_available_36 rfl lX5_57 vX5_t rfl hQ.l0 hQ.o (Nat.le_of_ble_eq_true rfl) (rrb rfl) (kX5_t hQ (ix_T (w := 2) (ht) (by decide)) ?_)
      show AW X G _ _ _ _ _ _ _ _
      refine r_iload_n (pc' := 40) h dX5_available_39 rfl rfl ?_
      refine r_imul (pc' := 41) h dX5_available_40 rfl ?_
      refine r_ireturn h hm dX5_available_41 (Nat.le_of_ble_eq_true rfl) (Nat.le_of_ble_eq_true rfl) ?_
      exact kI hk (by first | rfl | contradiction | simp [qAv, Int32.not_le, Int32.not_lt, c0, c1])
    · refine r_iconst (pc' := 30) (v := 0) h dX5_available_29 rfl (by decide) ?_
      refine r_goto (tgt := 41) h dX5_available_30 (by decide) ?_
      refine r_ireturn h hm dX5_available_41 (Nat.le_of_ble_eq_true rfl) (Nat.le_of_ble_eq_true rfl) ?_
      exact kI hk (by first | rfl | contradiction | simp [qAv, Int32.not_le, Int32.not_lt, c0, c1])
theorem kX5_output {l : Launch} {G : GX} {N : Nat} {S : Nat → va_E} {K : RK} {Q : MM} (hQ : isM G N S Q) (hw : wM (mM Q)) {t : Int32} (ht : vp_in t 12) (hk : K (.inl (some (.int (qOu (mM Q) t)))) S) : RetK l G N mX5_output (5, 113, 0, 0) [.ref (ad G 119), .int t] S K := by
  refine ret_enter (by decide +kernel) (Nat.le_of_ble_eq_true rfl) (fun X hX h hm => ?_)
  subst hX
  replace h : OK X G N cX5_output RX5 4 (5, 113, 0, 0) := h
  replace hm : OKm X G N K (some .int) (5, 113, 0, 0) := hm
  show AW X G 4 N 0 [(0, _), (1, _)] [] S 0 0
  refine r_aload_n (pc' := 1) h dX5_output_0 rfl rfl ?_
  refine r_iload_n (pc' := 2) h dX5_output_1 rfl rfl ?_
  refine r_callV1 (pc' := 5) (M := mX5_available) h hm dX5_output_2 rfl lX5_74 vX5_available rfl hQ.l0 hQ.o (Nat.le_of_ble_eq_true rfl) (rrb rfl) (kX5_available hQ hw (ht) ?_)
  show AW X G _ _ _ _ _ _ _ _
  refine r_istoren (j := 2) (pc' := 6) h rfl dX5_output_5 rfl (by decide) rfl ?_
  refine r_aload_n (pc' := 7) h dX5_output_6 rfl rfl ?_
  refine r_iload_n (pc' := 8) h dX5_output_7 rfl rfl ?_
  refine r_iconst (pc' := 9) (v := 5) h dX5_output_8 rfl (by decide) ?_
  refine r_callV2 (pc' := 12) (M := mX5_t) h hm dX5_output_9 rfl lX5_57 vX5_t rfl hQ.l0 hQ.o (Nat.le_of_ble_eq_true rfl) (rrb rfl) (kX5_t hQ (ix_T (w := 5) (ht) (by decide)) ?_)
  show AW X G _ _ _ _ _ _ _ _
  refine r_iconst (pc' := 13) (v := 1) h dX5_output_12 rfl (by decide) ?_
  refine r_isub (pc' := 14) h dX5_output_13 rfl ?_
  refine r_istoren (j := 3) (pc' := 15) h rfl dX5_output_14 rfl (by decide) rfl ?_
  refine r_iload_n (pc' := 16) h dX5_output_15 rfl rfl ?_
  refine r_if_lt (tgt := 28) (pc' := 19) h dX5_output_16 (by decide) rfl (fun c0 => ?_) (fun c0 => ?_)
  · refine r_iload_n (pc' := 29) h dX5_output_28 rfl rfl ?_
    refine r_ireturn h hm dX5_output_29 (Nat.le_of_ble_eq_true rfl) (Nat.le_of_ble_eq_true rfl) ?_
    exact kI hk (by first | rfl | contradiction | simp [qOu, c0])
  · refine r_iload_n (pc' := 20) h dX5_output_19 rfl rfl ?_
    refine r_iload_n (pc' := 21) h dX5_output_20 rfl rfl ?_
    refine r_icmp_ge (tgt := 28) (pc' := 24) h dX5_output_21 (by decide) rfl (fun c1 => ?_) (fun c1 => ?_)
    · refine r_iload_n (pc' := 29) h dX5_output_28 rfl rfl ?_
      refine r_ireturn h hm dX5_output_29 (Nat.le_of_ble_eq_true rfl) (Nat.le_of_ble_eq_true rfl) ?_
      exact kI hk (by first | rfl | contradiction | simp [qOu, c0, c1])
    · refine r_iload_n (pc' := 25) h dX5_output_24 rfl rfl ?_
      refine r_goto (tgt := 29) h dX5_output_25 (by decide) ?_
      refine r_ireturn h hm dX5_output_29 (Nat.le_of_ble_eq_true rfl) (Nat.le_of_ble_eq_true rfl) ?_
      exact kI hk (by first | rfl | contradiction | simp [qOu, c0, c1])
theorem kX5_total {l : Launch} {G : GX} {N : Nat} {S : Nat → va_E} {K : RK} {Q : MM} (hQ : isM G N S Q) (hw : wM (mM Q)) (hk : K (.inl (some (.int (qTo (mM Q) (qN (mM Q)))))) S) : RetK l G N mX5_total (6, 136, 0, 0) [.ref (ad G 119)] S K := by
  refine ret_enter (by decide +kernel) (Nat.le_of_ble_eq_true rfl) (fun X hX h hm => ?_)
  subst hX
  replace h : OK X G N cX5_total RX5 3 (6, 136, 0, 0) := h
  replace hm : OKm X G N K (some .int) (6, 136, 0, 0) := hm
  show AW X G 3 N 0 [(0, _)] [] S 0 0
  refine r_iconst (pc' := 1) (v := 0) h dX5_total_0 rfl (by decide) ?_
  refine r_istoren (j := 1) (pc' := 2) h rfl dX5_total_1 rfl (by decide) rfl ?_
  refine r_iconst (pc' := 3) (v := 0) h dX5_total_2 rfl (by decide) ?_
  refine r_istoren (j := 2) (pc' := 4) h rfl dX5_total_3 rfl (by decide) rfl ?_
  have loop : ∀ (n j : Nat), j ≤ qN (mM Q) → qN (mM Q) - j < n → AW X G 3 N 4 [(0, .ref (ad G 119)), (1, .int (qTo (mM Q) j)), (2, .int (nI j))] [] S 0 0 := by
    intro n
    induction n with
    | zero => intro j h1 h2; exact absurd h2 (by omega)
    | succ n ih =>
      intro j h1 h2
      refine r_iload_n (pc' := 5) h dX5_total_4 rfl rfl ?_
      refine r_aload_n (pc' := 6) h dX5_total_5 rfl rfl ?_
      refine gX5_9 (pc' := 9) h dX5_total_6 rfl hQ.l0 hQ.o rfl ?_
      refine r_iconst (pc' := 10) (v := 0) h dX5_total_9 rfl (by decide) ?_
      refine r_ialdk (k0 := 0) (pc' := 11) h dX5_total_10 rfl hQ.l1 hQ.r1 (by unfold vp_in; decide) rfl ?_
      refine r_icmp_ge (tgt := 28) (pc' := 14) h dX5_total_11 (by decide) rfl (fun c0 => ?_) (fun c0 => ?_)
      · have ej := lp_ge (c := qN (mM Q)) hw.1 (by have := hw.2; omega) h1 c0
        subst ej
        refine r_iload_n (pc' := 29) h dX5_total_28 rfl rfl ?_
        refine r_ireturn h hm dX5_total_29 (Nat.le_of_ble_eq_true rfl) (Nat.le_of_ble_eq_true rfl) ?_
        exact kI hk (by first | rfl | contradiction | simp [qTo, c0])
      · have hj := lp_lt (c := qN (mM Q)) hw.1 (by have := hw.2; omega) h1 c0
        have ht : vp_in (nI j) 12 := vp_in_nI (by have := hw.2; omega) (by decide)
        refine r_iload_n (pc' := 15) h dX5_total_14 rfl rfl ?_
        refine r_aload_n (pc' := 16) h dX5_total_15 rfl rfl ?_
        refine r_iload_n (pc' := 17) h dX5_total_16 rfl rfl ?_
        refine r_callV1 (pc' := 20) (M := mX5_output) h hm dX5_total_17 rfl lX5_77 vX5_output rfl hQ.l0 hQ.o (Nat.le_of_ble_eq_true rfl) (rrb rfl) (kX5_output hQ hw (ht) ?_)
        show AW X G _ _ _ _ _ _ _ _
        refine r_iadd (pc' := 21) h dX5_total_20 rfl ?_
        refine r_istoren (j := 1) (pc' := 22) h rfl dX5_total_21 rfl (by decide) rfl ?_
        refine r_iinc (pc' := 25) (v := 1) h dX5_total_22 rfl (by decide) (by decide) rfl rfl ?_
        refine r_goto (tgt := 4) h dX5_total_25 (by decide) ?_
        exact aw_cast (by simp [qTo, nI_1, c0]) (ih (j + 1) (by omega) (by omega))
  exact loop (qN (mM Q) + 1) 0 (Nat.zero_le _) (by omega)
theorem kX5_inState {l : Launch} {G : GX} {N : Nat} {S : Nat → va_E} {K : RK} {Q : MM} (hQ : isM G N S Q) (hw : wM (mM Q)) {x : Int32} (hk : K (.inl (some (.int (qIS (mM Q) x (qN (mM Q)))))) S) : RetK l G N mX5_inState (1, 22, 0, 0) [.ref (ad G 119), .int x] S K := by
  refine ret_enter (by decide +kernel) (Nat.le_of_ble_eq_true rfl) (fun X hX h hm => ?_)
  subst hX
  replace h : OK X G N cX5_inState RX5 4 (1, 22, 0, 0) := h
  replace hm : OKm X G N K (some .int) (1, 22, 0, 0) := hm
  show AW X G 4 N 0 [(0, _), (1, _)] [] S 0 0
  refine r_iconst (pc' := 1) (v := 0) h dX5_inState_0 rfl (by decide) ?_
  refine r_istoren (j := 2) (pc' := 2) h rfl dX5_inState_1 rfl (by decide) rfl ?_
  refine r_iconst (pc' := 3) (v := 0) h dX5_inState_2 rfl (by decide) ?_
  refine r_istoren (j := 3) (pc' := 4) h rfl dX5_inState_3 rfl (by decide) rfl ?_
  have loop : ∀ (n j : Nat), j ≤ qN (mM Q) → qN (mM Q) - j < n → AW X G 4 N 4 [(0, .ref (ad G 119)), (1, .int x), (2, .int (qIS (mM Q) x j)), (3, .int (nI j))] [] S 0 0 := by
    intro n
    induction n with
    | zero => intro j h1 h2; exact absurd h2 (by omega)
    | succ n ih =>
      intro j h1 h2
      refine r_iload_n (pc' := 5) h dX5_inState_4 rfl rfl ?_
      refine r_aload_n (pc' := 6) h dX5_inState_5 rfl rfl ?_
      refine gX5_9 (pc' := 9) h dX5_inState_6 rfl hQ.l0 hQ.o rfl ?_
      refine r_iconst (pc' := 10) (v := 0) h dX5_inState_9 rfl (by decide) ?_
      refine r_ialdk (k0 := 0) (pc' := 11) h dX5_inState_10 rfl hQ.l1 hQ.r1 (by unfold vp_in; decide) rfl ?_
      refine r_icmp_ge (tgt := 38) (pc' := 14) h dX5_inState_11 (by decide) rfl (fun c0 => ?_) (fun c0 => ?_)
      · have ej := lp_ge (c := qN (mM Q)) hw.1 (by have := hw.2; omega) h1 c0
        subst ej
        refine r_iload_n (pc' := 39) h dX5_inState_38 rfl rfl ?_
        refine r_ireturn h hm dX5_inState_39 (Nat.le_of_ble_eq_true rfl) (Nat.le_of_ble_eq_true rfl) ?_
        exact kI hk (by first | rfl | contradiction | simp [qIS, c0])
      · have hj := lp_lt (c := qN (mM Q)) hw.1 (by have := hw.2; omega) h1 c0
        have ht : vp_in (nI j) 12 := vp_in_nI (by have := hw.2; omega) (by decide)
        refine r_iload_n (pc' := 15) h dX5_inState_14 rfl rfl ?_
        refine r_aload_n (pc' := 16) h dX5_inState_15 rfl rfl ?_
        refine r_iload_n (pc' := 17) h dX5_inState_16 rfl rfl ?_
        refine r_iconst (pc' := 18) (v := 3) h dX5_inState_17 rfl (by decide) ?_
        refine r_callV2 (pc' := 21) (M := mX5_t) h hm dX5_inState_18 rfl lX5_57 vX5_t rfl hQ.l0 hQ.o (Nat.le_of_ble_eq_true rfl) (rrb rfl) (kX5_t hQ (ix_T (w := 3) (ht) (by decide)) ?_)
        show AW X G _ _ _ _ _ _ _ _
        refine r_iload_n (pc' := 22) h dX5_inState_21 rfl rfl ?_
        refine r_icmp_ne (tgt := 29) (pc' := 25) h dX5_inState_22 (by decide) rfl (fun c1 => ?_) (fun c1 => ?_)
        · refine r_iconst (pc' := 30) (v := 0) h dX5_inState_29 rfl (by decide) ?_
          refine r_iadd (pc' := 31) h dX5_inState_30 rfl ?_
          refine r_istoren (j := 2) (pc' := 32) h rfl dX5_inState_31 rfl (by decide) rfl ?_
          refine r_iinc (pc' := 35) (v := 1) h dX5_inState_32 rfl (by decide) (by decide) rfl rfl ?_
          refine r_goto (tgt := 4) h dX5_inState_35 (by decide) ?_
          exact aw_cast (by simp [qIS, nI_1, c0, c1]) (ih (j + 1) (by omega) (by omega))
        · refine r_iconst (pc' := 26) (v := 1) h dX5_inState_25 rfl (by decide) ?_
          refine r_goto (tgt := 30) h dX5_inState_26 (by decide) ?_
          refine r_iadd (pc' := 31) h dX5_inState_30 rfl ?_
          refine r_istoren (j := 2) (pc' := 32) h rfl dX5_inState_31 rfl (by decide) rfl ?_
          refine r_iinc (pc' := 35) (v := 1) h dX5_inState_32 rfl (by decide) (by decide) rfl rfl ?_
          refine r_goto (tgt := 4) h dX5_inState_35 (by decide) ?_
          exact aw_cast (by simp [qIS, nI_1, c0, c1]) (ih (j + 1) (by omega) (by omega))
  exact loop (qN (mM Q) + 1) 0 (Nat.zero_le _) (by omega)
theorem kX5_firstInService {l : Launch} {G : GX} {N : Nat} {S : Nat → va_E} {K : RK} {Q : MM} (hQ : isM G N S Q) (hw : wM (mM Q)) (hk : K (.inl (some (.int (qFS (mM Q) 0 (qN (mM Q)))))) S) : RetK l G N mX5_firstInService (1, 22, 0, 0) [.ref (ad G 119)] S K := by
  refine ret_enter (by decide +kernel) (Nat.le_of_ble_eq_true rfl) (fun X hX h hm => ?_)
  subst hX
  replace h : OK X G N cX5_firstInService RX5 2 (1, 22, 0, 0) := h
  replace hm : OKm X G N K (some .int) (1, 22, 0, 0) := hm
  show AW X G 2 N 0 [(0, _)] [] S 0 0
  refine r_iconst (pc' := 1) (v := 0) h dX5_firstInService_0 rfl (by decide) ?_
  refine r_istoren (j := 1) (pc' := 2) h rfl dX5_firstInService_1 rfl (by decide) rfl ?_
  have loop : ∀ (n j : Nat), j ≤ qN (mM Q) → qN (mM Q) - j < n → qFS (mM Q) j (qN (mM Q) - j) = qFS (mM Q) 0 (qN (mM Q)) → AW X G 2 N 2 [(0, .ref (ad G 119)), (1, .int (nI j))] [] S 0 0 := by
    intro n
    induction n with
    | zero => intro j h1 h2; exact absurd h2 (by omega)
    | succ n ih =>
      intro j h1 h2 hv
      refine r_iload_n (pc' := 3) h dX5_firstInService_2 rfl rfl ?_
      refine r_aload_n (pc' := 4) h dX5_firstInService_3 rfl rfl ?_
      refine gX5_9 (pc' := 7) h dX5_firstInService_4 rfl hQ.l0 hQ.o rfl ?_
      refine r_iconst (pc' := 8) (v := 0) h dX5_firstInService_7 rfl (by decide) ?_
      refine r_ialdk (k0 := 0) (pc' := 9) h dX5_firstInService_8 rfl hQ.l1 hQ.r1 (by unfold vp_in; decide) rfl ?_
      refine r_icmp_ge (tgt := 30) (pc' := 12) h dX5_firstInService_9 (by decide) rfl (fun c0 => ?_) (fun c0 => ?_)
      · have ej := lp_ge (c := qN (mM Q)) hw.1 (by have := hw.2; omega) h1 c0
        subst ej
        rw [Nat.sub_self] at hv
        refine r_iconst (pc' := 31) (v := 0) h dX5_firstInService_30 rfl (by decide) ?_
        refine r_ireturn h hm dX5_firstInService_31 (Nat.le_of_ble_eq_true rfl) (Nat.le_of_ble_eq_true rfl) ?_
        exact kI hk (by rw [← hv]; simp [qFS])
      · have hj := lp_lt (c := qN (mM Q)) hw.1 (by have := hw.2; omega) h1 c0
        have ht : vp_in (nI j) 12 := vp_in_nI (by have := hw.2; omega) (by decide)
        refine r_aload_n (pc' := 13) h dX5_firstInService_12 rfl rfl ?_
        refine r_iload_n (pc' := 14) h dX5_firstInService_13 rfl rfl ?_
        refine r_iconst (pc' := 15) (v := 3) h dX5_firstInService_14 rfl (by decide) ?_
        refine r_callV2 (pc' := 18) (M := mX5_t) h hm dX5_firstInService_15 rfl lX5_57 vX5_t rfl hQ.l0 hQ.o (Nat.le_of_ble_eq_true rfl) (rrb rfl) (kX5_t hQ (ix_T (w := 3) (ht) (by decide)) ?_)
        show AW X G _ _ _ _ _ _ _ _
        refine r_iconst (pc' := 19) (v := 2) h dX5_firstInService_18 rfl (by decide) ?_
        refine r_icmp_ne (tgt := 24) (pc' := 22) h dX5_firstInService_19 (by decide) rfl (fun c1 => ?_) (fun c1 => ?_)
        · refine r_iinc (pc' := 27) (v := 1) h dX5_firstInService_24 rfl (by decide) (by decide) rfl rfl ?_
          refine r_goto (tgt := 2) h dX5_firstInService_27 (by decide) ?_
          refine aw_cast (by simp [nI_1]) (ih (j + 1) (by omega) (by omega) ?_)
          rw [← hv]
          obtain ⟨k, hk9⟩ : ∃ k, qN (mM Q) - j = k + 1 := ⟨qN (mM Q) - j - 1, by omega⟩
          rw [show qN (mM Q) - (j + 1) = k by omega, hk9]
          simp [qFS, c0, c1]
        · refine r_iload_n (pc' := 23) h dX5_firstInService_22 rfl rfl ?_
          refine r_ireturn h hm dX5_firstInService_23 (Nat.le_of_ble_eq_true rfl) (Nat.le_of_ble_eq_true rfl) ?_
          exact kI hk (by rw [← hv]; obtain ⟨k, hk9⟩ : ∃ k, qN (mM Q) - j = k + 1 := ⟨qN (mM Q) - j - 1, by omega⟩; rw [hk9]; simp [qFS, c0, c1])
  exact loop (qN (mM Q) + 1) 0 (Nat.zero_le _) (by omega) rfl
theorem kX5_wayOf {l : Launch} {G : GX} {N : Nat} {S : Nat → va_E} {K : RK} {x : Int32} (hk : K (.inl (some (.int (qWay x)))) S) : RetK l G N mX5_wayOf (0, 0, 0, 0) [.int x] S K := by
  refine ret_enter (by decide +kernel) (Nat.le_of_ble_eq_true rfl) (fun X hX h hm => ?_)
  subst hX
  replace h : OK X G N cX5_wayOf RX5 1 (0, 0, 0, 0) := h
  replace hm : OKm X G N K (some .int) (0, 0, 0, 0) := hm
  show AW X G 1 N 0 [(0, _)] [] S 0 0
  refine r_iload_n (pc' := 1) h dX5_wayOf_0 rfl rfl ?_
  refine r_bipush (pc' := 3) (v := 78) h dX5_wayOf_1 rfl (by decide) ?_
  refine r_icmp_ne (tgt := 10) (pc' := 6) h dX5_wayOf_3 (by decide) rfl (fun c0 => ?_) (fun c0 => ?_)
  · refine r_iload_n (pc' := 11) h dX5_wayOf_10 rfl rfl ?_
    refine r_bipush (pc' := 13) (v := 69) h dX5_wayOf_11 rfl (by decide) ?_
    refine r_icmp_ne (tgt := 20) (pc' := 16) h dX5_wayOf_13 (by decide) rfl (fun c1 => ?_) (fun c1 => ?_)
    · refine r_iload_n (pc' := 21) h dX5_wayOf_20 rfl rfl ?_
      refine r_bipush (pc' := 23) (v := 83) h dX5_wayOf_21 rfl (by decide) ?_
      refine r_icmp_ne (tgt := 30) (pc' := 26) h dX5_wayOf_23 (by decide) rfl (fun c2 => ?_) (fun c2 => ?_)
      · refine r_iload_n (pc' := 31) h dX5_wayOf_30 rfl rfl ?_
        refine r_bipush (pc' := 33) (v := 87) h dX5_wayOf_31 rfl (by decide) ?_
        refine r_icmp_ne (tgt := 40) (pc' := 36) h dX5_wayOf_33 (by decide) rfl (fun c3 => ?_) (fun c3 => ?_)
        · refine r_iconst (pc' := 41) (v := -1) h dX5_wayOf_40 rfl (by decide) ?_
          refine r_ireturn h hm dX5_wayOf_41 (Nat.le_of_ble_eq_true rfl) (Nat.le_of_ble_eq_true rfl) ?_
          exact kI hk (by first | rfl | contradiction | simp [qWay, c0, c1, c2, c3])
        · refine r_iconst (pc' := 37) (v := 3) h dX5_wayOf_36 rfl (by decide) ?_
          refine r_goto (tgt := 41) h dX5_wayOf_37 (by decide) ?_
          refine r_ireturn h hm dX5_wayOf_41 (Nat.le_of_ble_eq_true rfl) (Nat.le_of_ble_eq_true rfl) ?_
          exact kI hk (by first | rfl | contradiction | simp [qWay, c0, c1, c2, c3])
      · refine r_iconst (pc' := 27) (v := 2) h dX5_wayOf_26 rfl (by decide) ?_
        refine r_goto (tgt := 41) h dX5_wayOf_27 (by decide) ?_
        refine r_ireturn h hm dX5_wayOf_41 (Nat.le_of_ble_eq_true rfl) (Nat.le_of_ble_eq_true rfl) ?_
        exact kI hk (by first | rfl | contradiction | simp [qWay, c0, c1, c2])
    · refine r_iconst (pc' := 17) (v := 1) h dX5_wayOf_16 rfl (by decide) ?_
      refine r_goto (tgt := 41) h dX5_wayOf_17 (by decide) ?_
      refine r_ireturn h hm dX5_wayOf_41 (Nat.le_of_ble_eq_true rfl) (Nat.le_of_ble_eq_true rfl) ?_
      exact kI hk (by first | rfl | contradiction | simp [qWay, c0, c1])
  · refine r_iconst (pc' := 7) (v := 0) h dX5_wayOf_6 rfl (by decide) ?_
    refine r_goto (tgt := 41) h dX5_wayOf_7 (by decide) ?_
    refine r_ireturn h hm dX5_wayOf_41 (Nat.le_of_ble_eq_true rfl) (Nat.le_of_ble_eq_true rfl) ?_
    exact kI hk (by first | rfl | contradiction | simp [qWay, c0])
theorem kX5_signOf {l : Launch} {G : GX} {N : Nat} {S : Nat → va_E} {K : RK} {x : Int32} (hk : K (.inl (some (.int (qSgn x)))) S) : RetK l G N mX5_signOf (0, 0, 0, 0) [.int x] S K := by
  refine ret_enter (by decide +kernel) (Nat.le_of_ble_eq_true rfl) (fun X hX h hm => ?_)
  subst hX
  replace h : OK X G N cX5_signOf RX5 1 (0, 0, 0, 0) := h
  replace hm : OKm X G N K (some .char) (0, 0, 0, 0) := hm
  show AW X G 1 N 0 [(0, _)] [] S 0 0
  refine r_iload_n (pc' := 1) h dX5_signOf_0 rfl rfl ?_
  refine r_if_ne (tgt := 9) (pc' := 4) h dX5_signOf_1 (by decide) rfl (fun c0 => ?_) (fun c0 => ?_)
  · refine r_iload_n (pc' := 10) h dX5_signOf_9 rfl rfl ?_
    refine r_iconst (pc' := 11) (v := 1) h dX5_signOf_10 rfl (by decide) ?_
    refine r_icmp_ne (tgt := 19) (pc' := 14) h dX5_signOf_11 (by decide) rfl (fun c1 => ?_) (fun c1 => ?_)
    · refine r_iload_n (pc' := 20) h dX5_signOf_19 rfl rfl ?_
      refine r_iconst (pc' := 21) (v := 2) h dX5_signOf_20 rfl (by decide) ?_
      refine r_icmp_ne (tgt := 29) (pc' := 24) h dX5_signOf_21 (by decide) rfl (fun c2 => ?_) (fun c2 => ?_)
      · refine r_bipush (pc' := 31) (v := 87) h dX5_signOf_29 rfl (by decide) ?_
        refine r_zreturn h hm dX5_signOf_31 (Nat.le_of_ble_eq_true rfl) (Nat.le_of_ble_eq_true rfl) (by first | rfl | exact nar_b _) ?_
        exact kI hk (by first | rfl | contradiction | simp [qSgn, c0, c1, c2])
      · refine r_bipush (pc' := 26) (v := 83) h dX5_signOf_24 rfl (by decide) ?_
        refine r_goto (tgt := 31) h dX5_signOf_26 (by decide) ?_
        refine r_zreturn h hm dX5_signOf_31 (Nat.le_of_ble_eq_true rfl) (Nat.le_of_ble_eq_true rfl) (by first | rfl | exact nar_b _) ?_
        exact kI hk (by first | rfl | contradiction | simp [qSgn, c0, c1, c2])
    · refine r_bipush (pc' := 16) (v := 69) h dX5_signOf_14 rfl (by decide) ?_
      refine r_goto (tgt := 31) h dX5_signOf_16 (by decide) ?_
      refine r_zreturn h hm dX5_signOf_31 (Nat.le_of_ble_eq_true rfl) (Nat.le_of_ble_eq_true rfl) (by first | rfl | exact nar_b _) ?_
      exact kI hk (by first | rfl | contradiction | simp [qSgn, c0, c1])
  · refine r_bipush (pc' := 6) (v := 78) h dX5_signOf_4 rfl (by decide) ?_
    refine r_goto (tgt := 31) h dX5_signOf_6 (by decide) ?_
    refine r_zreturn h hm dX5_signOf_31 (Nat.le_of_ble_eq_true rfl) (Nat.le_of_ble_eq_true rfl) (by first | rfl | exact nar_b _) ?_
    exact kI hk (by first | rfl | contradiction | simp [qSgn, c0])
theorem kX5_price {l : Launch} {G : GX} {N : Nat} {S : Nat → va_E} {K : RK} {Q : MM} (hQ : isM G N S Q) {x : Int32} (hx : vp_in x 24) (hk : K (.inl (some (.int (qPr (mM Q) x)))) S) : RetK l G N mX5_price (0, 0, 0, 0) [.ref (ad G 119), .int x] S K := by
  refine ret_enter (by decide +kernel) (Nat.le_of_ble_eq_true rfl) (fun X hX h hm => ?_)
  subst hX
  replace h : OK X G N cX5_price RX5 2 (0, 0, 0, 0) := h
  replace hm : OKm X G N K (some .int) (0, 0, 0, 0) := hm
  show AW X G 2 N 0 [(0, _), (1, _)] [] S 0 0
  refine r_aload_n (pc' := 1) h dX5_price_0 rfl rfl ?_
  refine gX5_9 (pc' := 4) h dX5_price_1 rfl hQ.l0 hQ.o rfl ?_
  refine r_bipush (pc' := 6) (v := 9) h dX5_price_4 rfl (by decide) ?_
  refine r_iconst (pc' := 7) (v := 2) h dX5_price_6 rfl (by decide) ?_
  refine r_iload_n (pc' := 8) h dX5_price_7 rfl rfl ?_
  refine r_imul (pc' := 9) h dX5_price_8 rfl ?_
  refine r_iadd (pc' := 10) h dX5_price_9 rfl ?_
  refine r_iald (pc' := 11) h dX5_price_10 rfl hQ.l1 hQ.r1 (ix_P hx).1 ?_
  refine r_ireturn h hm dX5_price_11 (Nat.le_of_ble_eq_true rfl) (Nat.le_of_ble_eq_true rfl) ?_
  exact kI hk (by first | rfl | contradiction | simp [qPr])
theorem kX5_quantity {l : Launch} {G : GX} {N : Nat} {S : Nat → va_E} {K : RK} {Q : MM} (hQ : isM G N S Q) {x : Int32} (hx : vp_in x 24) (hk : K (.inl (some (.int (qQu (mM Q) x)))) S) : RetK l G N mX5_quantity (0, 0, 0, 0) [.ref (ad G 119), .int x] S K := by
  refine ret_enter (by decide +kernel) (Nat.le_of_ble_eq_true rfl) (fun X hX h hm => ?_)
  subst hX
  replace h : OK X G N cX5_quantity RX5 2 (0, 0, 0, 0) := h
  replace hm : OKm X G N K (some .int) (0, 0, 0, 0) := hm
  show AW X G 2 N 0 [(0, _), (1, _)] [] S 0 0
  refine r_aload_n (pc' := 1) h dX5_quantity_0 rfl rfl ?_
  refine gX5_9 (pc' := 4) h dX5_quantity_1 rfl hQ.l0 hQ.o rfl ?_
  refine r_bipush (pc' := 6) (v := 9) h dX5_quantity_4 rfl (by decide) ?_
  refine r_iconst (pc' := 7) (v := 2) h dX5_quantity_6 rfl (by decide) ?_
  refine r_iload_n (pc' := 8) h dX5_quantity_7 rfl rfl ?_
  refine r_imul (pc' := 9) h dX5_quantity_8 rfl ?_
  refine r_iadd (pc' := 10) h dX5_quantity_9 rfl ?_
  refine r_iconst (pc' := 11) (v := 1) h dX5_quantity_10 rfl (by decide) ?_
  refine r_iadd (pc' := 12) h dX5_quantity_11 rfl ?_
  refine r_iald (pc' := 13) h dX5_quantity_12 rfl hQ.l1 hQ.r1 (ix_P hx).2 ?_
  refine r_ireturn h hm dX5_quantity_13 (Nat.le_of_ble_eq_true rfl) (Nat.le_of_ble_eq_true rfl) ?_
  exact kI hk (by first | rfl | contradiction | simp [qQu])
theorem kX5_bids {l : Launch} {G : GX} {N : Nat} {S : Nat → va_E} {K : RK} {Q : MM} (hQ : isM G N S Q) (hk : K (.inl (some (.int (qBd (mM Q) 24)))) S) : RetK l G N mX5_bids (1, 21, 0, 0) [.ref (ad G 119)] S K := by
  refine ret_enter (by decide +kernel) (Nat.le_of_ble_eq_true rfl) (fun X hX h hm => ?_)
  subst hX
  replace h : OK X G N cX5_bids RX5 3 (1, 21, 0, 0) := h
  replace hm : OKm X G N K (some .int) (1, 21, 0, 0) := hm
  show AW X G 3 N 0 [(0, _)] [] S 0 0
  refine r_iconst (pc' := 1) (v := 0) h dX5_bids_0 rfl (by decide) ?_
  refine r_istoren (j := 1) (pc' := 2) h rfl dX5_bids_1 rfl (by decide) rfl ?_
  refine r_iconst (pc' := 3) (v := 0) h dX5_bids_2 rfl (by decide) ?_
  refine r_istoren (j := 2) (pc' := 4) h rfl dX5_bids_3 rfl (by decide) rfl ?_
  have loop : ∀ (n j : Nat), j ≤ 24 → 24 - j < n → AW X G 3 N 4 [(0, .ref (ad G 119)), (1, .int (qBd (mM Q) j)), (2, .int (nI j))] [] S 0 0 := by
    intro n
    induction n with
    | zero => intro j h1 h2; exact absurd h2 (by omega)
    | succ n ih =>
      intro j h1 h2
      refine r_iload_n (pc' := 5) h dX5_bids_4 rfl rfl ?_
      refine r_bipush (pc' := 7) (v := 24) h dX5_bids_5 rfl (by decide) ?_
      refine r_icmp_ge (tgt := 32) (pc' := 10) h dX5_bids_7 (by decide) rfl (fun c0 => ?_) (fun c0 => ?_)
      · have ej := lp_ge (c := 24) (rfl : (24 : Int32) = nI 24) (by decide) h1 c0
        subst ej
        refine r_iload_n (pc' := 33) h dX5_bids_32 rfl rfl ?_
        refine r_ireturn h hm dX5_bids_33 (Nat.le_of_ble_eq_true rfl) (Nat.le_of_ble_eq_true rfl) ?_
        exact kI hk (by first | rfl | contradiction | simp [qBd, c0])
      · have hj := lp_lt (c := 24) (rfl : (24 : Int32) = nI 24) (by decide) h1 c0
        have ht : vp_in (nI j) 24 := vp_in_nI hj (by decide)
        refine r_iload_n (pc' := 11) h dX5_bids_10 rfl rfl ?_
        refine r_aload_n (pc' := 12) h dX5_bids_11 rfl rfl ?_
        refine r_iload_n (pc' := 13) h dX5_bids_12 rfl rfl ?_
        refine r_callV1 (pc' := 16) (M := mX5_price) h hm dX5_bids_13 rfl lX5_147 vX5_price rfl hQ.l0 hQ.o (Nat.le_of_ble_eq_true rfl) (rrb rfl) (kX5_price hQ (ht) ?_)
        show AW X G _ _ _ _ _ _ _ _
        refine r_if_le (tgt := 23) (pc' := 19) h dX5_bids_16 (by decide) rfl (fun c1 => ?_) (fun c1 => ?_)
        · refine r_iconst (pc' := 24) (v := 0) h dX5_bids_23 rfl (by decide) ?_
          refine r_iadd (pc' := 25) h dX5_bids_24 rfl ?_
          refine r_istoren (j := 1) (pc' := 26) h rfl dX5_bids_25 rfl (by decide) rfl ?_
          refine r_iinc (pc' := 29) (v := 1) h dX5_bids_26 rfl (by decide) (by decide) rfl rfl ?_
          refine r_goto (tgt := 4) h dX5_bids_29 (by decide) ?_
          exact aw_cast (by simp [qBd, nI_1, c0, c1]) (ih (j + 1) (by omega) (by omega))
        · refine r_iconst (pc' := 20) (v := 1) h dX5_bids_19 rfl (by decide) ?_
          refine r_goto (tgt := 24) h dX5_bids_20 (by decide) ?_
          refine r_iadd (pc' := 25) h dX5_bids_24 rfl ?_
          refine r_istoren (j := 1) (pc' := 26) h rfl dX5_bids_25 rfl (by decide) rfl ?_
          refine r_iinc (pc' := 29) (v := 1) h dX5_bids_26 rfl (by decide) (by decide) rfl rfl ?_
          refine r_goto (tgt := 4) h dX5_bids_29 (by decide) ?_
          exact aw_cast (by simp [qBd, nI_1, c0, c1]) (ih (j + 1) (by omega) (by omega))
  exact loop 25 0 (Nat.zero_le _) (by omega)
