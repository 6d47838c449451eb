/-! THE WALKS: statics, readers of the farm. -/
theorem kX4_valueAt {l : Launch} {G : GX} {N : Nat} {S : Nat → va_E} {K : RK} {k n : Nat} {f : Nat → Int32} {i : Int32} (hk0 : k < N) (hc0 : S k = .inl (gI G, n, .inl f)) (hn : n < 2 ^ 31) (hk : K (.inl (some (.int (vAt n f i)))) S) : RetK l G N mX4_valueAt (0, 0, 0, 0) [.ref (ad G k), .int i] S K := by
  refine ret_enter (by decide +kernel) (Nat.le_of_ble_eq_true rfl) (fun X hX h hm => ?_)
  subst hX
  replace h : OK X G N cX4_valueAt RX4 2 (0, 0, 0, 0) := h
  replace hm : OKm X G N K (some .int) (0, 0, 0, 0) := hm
  show AW X G 2 N 0 [(0, _), (1, _)] [] S 0 0
  refine r_iload_n (pc' := 1) h dX4_valueAt_0 rfl rfl ?_
  refine r_if_lt (tgt := 16) (pc' := 4) h dX4_valueAt_1 (by decide) rfl (fun c0 => ?_) (fun c0 => ?_)
  · refine r_iconst (pc' := 17) (v := 0) h dX4_valueAt_16 rfl (by decide) ?_
    refine r_ireturn h hm dX4_valueAt_17 (Nat.le_of_ble_eq_true rfl) (Nat.le_of_ble_eq_true rfl) ?_
    exact kI hk (by first | rfl | simp [vAt, c0])
  · refine r_iload_n (pc' := 5) h dX4_valueAt_4 rfl rfl ?_
    refine r_aload_n (pc' := 6) h dX4_valueAt_5 rfl rfl ?_
    refine r_alen (pc' := 7) (t := 0) h dX4_valueAt_6 rfl hk0 hc0 rfl ?_
    refine r_icmp_ge (tgt := 16) (pc' := 10) h dX4_valueAt_7 (by decide) rfl (fun c1 => ?_) (fun c1 => ?_)
    · refine r_iconst (pc' := 17) (v := 0) h dX4_valueAt_16 rfl (by decide) ?_
      refine r_ireturn h hm dX4_valueAt_17 (Nat.le_of_ble_eq_true rfl) (Nat.le_of_ble_eq_true rfl) ?_
      exact kI hk (by first | rfl | simp [vAt, c0, c1])
    · refine r_aload_n (pc' := 11) h dX4_valueAt_10 rfl rfl ?_
      refine r_iload_n (pc' := 12) h dX4_valueAt_11 rfl rfl ?_
      refine r_iald (pc' := 13) h dX4_valueAt_12 rfl hk0 hc0 (vp_in_c hn c0 c1) ?_
      refine r_goto (tgt := 17) h dX4_valueAt_13 (by decide) ?_
      refine r_ireturn h hm dX4_valueAt_17 (Nat.le_of_ble_eq_true rfl) (Nat.le_of_ble_eq_true rfl) ?_
      exact kI hk (by first | rfl | simp [vAt, c0, c1])
theorem kX4_setValue {l : Launch} {G : GX} {N : Nat} {S : Nat → va_E} {K : RK} {k n : Nat} {f : Nat → Int32} {i v : Int32} (hk0 : k < N) (hc0 : S k = .inl (gI G, n, .inl f)) (hn : n < 2 ^ 31) (hk : K (.inl none) (va_up S k (.inl (gI G, n, .inl (sAt n f i v))))) : RetK l G N mX4_setValue (0, 0, 0, 0) [.ref (ad G k), .int i, .int v] S K := by
  refine ret_enter (by decide +kernel) (Nat.le_of_ble_eq_true rfl) (fun X hX h hm => ?_)
  subst hX
  replace h : OK X G N cX4_setValue RX4 3 (0, 0, 0, 0) := h
  replace hm : OKm X G N K none (0, 0, 0, 0) := hm
  show AW X G 3 N 0 [(0, _), (1, _), (2, _)] [] S 0 0
  refine r_iload_n (pc' := 1) h dX4_setValue_0 rfl rfl ?_
  refine r_if_lt (tgt := 14) (pc' := 4) h dX4_setValue_1 (by decide) rfl (fun c0 => ?_) (fun c0 => ?_)
  · refine r_return h hm dX4_setValue_14 (Nat.le_of_ble_eq_true rfl) (Nat.le_of_ble_eq_true rfl) ?_
    rw [show sAt n f i v = f by simp [sAt, c0]] at hk
    have e2 : va_up S k (.inl (gI G, n, .inl f)) = S := by
      funext j; unfold va_up; split
      · next q => rw [q]; exact hc0.symm
      · rfl
    rw [e2] at hk
    exact hk
  · refine r_iload_n (pc' := 5) h dX4_setValue_4 rfl rfl ?_
    refine r_aload_n (pc' := 6) h dX4_setValue_5 rfl rfl ?_
    refine r_alen (pc' := 7) (t := 0) h dX4_setValue_6 rfl hk0 hc0 rfl ?_
    refine r_icmp_ge (tgt := 14) (pc' := 10) h dX4_setValue_7 (by decide) rfl (fun c1 => ?_) (fun c1 => ?_)
    · refine r_return h hm dX4_setValue_14 (Nat.le_of_ble_eq_true rfl) (Nat.le_of_ble_eq_true rfl) ?_
      rw [show sAt n f i v = f by simp [sAt, c0, c1]] at hk
      have e2 : va_up S k (.inl (gI G, n, .inl f)) = S := by
        funext j; unfold va_up; split
        · next q => rw [q]; exact hc0.symm
        · rfl
      rw [e2] at hk
      exact hk
    · refine r_aload_n (pc' := 11) h dX4_setValue_10 rfl rfl ?_
      refine r_iload_n (pc' := 12) h dX4_setValue_11 rfl rfl ?_
      refine r_iload_n (pc' := 13) h dX4_setValue_12 rfl rfl ?_
      refine r_iast (pc' := 14) h dX4_setValue_13 rfl hk0 hc0 (vp_in_c hn c0 c1) ?_
      refine r_return h hm dX4_setValue_14 (Nat.le_of_ble_eq_true rfl) (Nat.le_of_ble_eq_true rfl) ?_
      rw [show sAt n f i v = upd f i.toNatClampNeg v by simp [sAt, c0, c1]] at hk
      exact hk
theorem kX4_isWithin {l : Launch} {G : GX} {N : Nat} {S : Nat → va_E} {K : RK} {x lw hi : Int32} (hk : K (.inl (some (.int (b2i (wIn x lw hi))))) S) : RetK l G N mX4_isWithin (0, 0, 0, 0) [.int x, .int lw, .int hi] S K := by
  refine ret_enter (by decide +kernel) (Nat.le_of_ble_eq_true rfl) (fun X hX h hm => ?_)
  subst hX
  replace h : OK X G N cX4_isWithin RX4 3 (0, 0, 0, 0) := h
  replace hm : OKm X G N K (some .boolean) (0, 0, 0, 0) := hm
  show AW X G 3 N 0 [(0, _), (1, _), (2, _)] [] S 0 0
  refine r_iload_n (pc' := 1) h dX4_isWithin_0 rfl rfl ?_
  refine r_iload_n (pc' := 2) h dX4_isWithin_1 rfl rfl ?_
  refine r_icmp_lt (tgt := 14) (pc' := 5) h dX4_isWithin_2 (by decide) rfl (fun c0 => ?_) (fun c0 => ?_)
  · refine r_iconst (pc' := 15) (v := 0) h dX4_isWithin_14 rfl (by decide) ?_
    refine r_zreturn h hm dX4_isWithin_15 (Nat.le_of_ble_eq_true rfl) (Nat.le_of_ble_eq_true rfl) (by first | rfl | exact nar_b _) ?_
    exact kI hk (by first | rfl | simp [wIn, b2i, c0])
  · refine r_iload_n (pc' := 6) h dX4_isWithin_5 rfl rfl ?_
    refine r_iload_n (pc' := 7) h dX4_isWithin_6 rfl rfl ?_
    refine r_icmp_gt (tgt := 14) (pc' := 10) h dX4_isWithin_7 (by decide) rfl (fun c1 => ?_) (fun c1 => ?_)
    · refine r_iconst (pc' := 15) (v := 0) h dX4_isWithin_14 rfl (by decide) ?_
      refine r_zreturn h hm dX4_isWithin_15 (Nat.le_of_ble_eq_true rfl) (Nat.le_of_ble_eq_true rfl) (by first | rfl | exact nar_b _) ?_
      exact kI hk (by first | rfl | simp [wIn, b2i, c0, c1])
    · refine r_iconst (pc' := 11) (v := 1) h dX4_isWithin_10 rfl (by decide) ?_
      refine r_goto (tgt := 15) h dX4_isWithin_11 (by decide) ?_
      refine r_zreturn h hm dX4_isWithin_15 (Nat.le_of_ble_eq_true rfl) (Nat.le_of_ble_eq_true rfl) (by first | rfl | exact nar_b _) ?_
      exact kI hk (by first | rfl | simp [wIn, b2i, c0, c1])
theorem kX4_isCell {l : Launch} {G : GX} {N : Nat} {S : Nat → va_E} {K : RK} {r c : Int32} (hk : K (.inl (some (.int (b2i (isCell' r c))))) S) : RetK l G N mX4_isCell (1, 22, 0, 0) [.int r, .int c] S K := by
  refine ret_enter (by decide +kernel) (Nat.le_of_ble_eq_true rfl) (fun X hX h hm => ?_)
  subst hX
  replace h : OK X G N cX4_isCell RX4 2 (1, 22, 0, 0) := h
  replace hm : OKm X G N K (some .boolean) (1, 22, 0, 0) := hm
  show AW X G 2 N 0 [(0, _), (1, _)] [] S 0 0
  refine r_iload_n (pc' := 1) h dX4_isCell_0 rfl rfl ?_
  refine r_iconst (pc' := 2) (v := 0) h dX4_isCell_1 rfl (by decide) ?_
  refine r_iconst (pc' := 3) (v := 4) h dX4_isCell_2 rfl (by decide) ?_
  refine r_callS3 (pc' := 6) (M := mX4_isWithin) h hm dX4_isCell_3 rfl lX4_227 vX4_isWithin (Nat.le_of_ble_eq_true rfl) (rrb rfl) (kX4_isWithin ?_)
  show AW X G _ _ _ _ _ _ _ _
  refine r_if_eqb (tgt := 22) (pc' := 9) h dX4_isCell_6 (by decide) rfl (fun c0 => ?_) (fun c0 => ?_)
  · refine r_iconst (pc' := 23) (v := 0) h dX4_isCell_22 rfl (by decide) ?_
    refine r_zreturn h hm dX4_isCell_23 (Nat.le_of_ble_eq_true rfl) (Nat.le_of_ble_eq_true rfl) (by first | rfl | exact nar_b _) ?_
    exact kI hk (by first | rfl | simp [isCell', b2i, c0])
  · refine r_iload_n (pc' := 10) h dX4_isCell_9 rfl rfl ?_
    refine r_iconst (pc' := 11) (v := 0) h dX4_isCell_10 rfl (by decide) ?_
    refine r_iconst (pc' := 12) (v := 5) h dX4_isCell_11 rfl (by decide) ?_
    refine r_callS3 (pc' := 15) (M := mX4_isWithin) h hm dX4_isCell_12 rfl lX4_227 vX4_isWithin (Nat.le_of_ble_eq_true rfl) (rrb rfl) (kX4_isWithin ?_)
    show AW X G _ _ _ _ _ _ _ _
    refine r_if_eqb (tgt := 22) (pc' := 18) h dX4_isCell_15 (by decide) rfl (fun c1 => ?_) (fun c1 => ?_)
    · refine r_iconst (pc' := 23) (v := 0) h dX4_isCell_22 rfl (by decide) ?_
      refine r_zreturn h hm dX4_isCell_23 (Nat.le_of_ble_eq_true rfl) (Nat.le_of_ble_eq_true rfl) (by first | rfl | exact nar_b _) ?_
      exact kI hk (by first | rfl | simp [isCell', b2i, c0, c1])
    · refine r_iconst (pc' := 19) (v := 1) h dX4_isCell_18 rfl (by decide) ?_
      refine r_goto (tgt := 23) h dX4_isCell_19 (by decide) ?_
      refine r_zreturn h hm dX4_isCell_23 (Nat.le_of_ble_eq_true rfl) (Nat.le_of_ble_eq_true rfl) (by first | rfl | exact nar_b _) ?_
      exact kI hk (by first | rfl | simp [isCell', b2i, c0, c1])
theorem kX4_isHourOfDay {l : Launch} {G : GX} {N : Nat} {S : Nat → va_E} {K : RK} {x : Int32} (hk : K (.inl (some (.int (b2i (isHour' x))))) S) : RetK l G N mX4_isHourOfDay (1, 22, 0, 0) [.int x] S K := by
  refine ret_enter (by decide +kernel) (Nat.le_of_ble_eq_true rfl) (fun X hX h hm => ?_)
  subst hX
  replace h : OK X G N cX4_isHourOfDay RX4 1 (1, 22, 0, 0) := h
  replace hm : OKm X G N K (some .boolean) (1, 22, 0, 0) := hm
  show AW X G 1 N 0 [(0, _)] [] S 0 0
  refine r_iload_n (pc' := 1) h dX4_isHourOfDay_0 rfl rfl ?_
  refine r_iconst (pc' := 2) (v := 0) h dX4_isHourOfDay_1 rfl (by decide) ?_
  refine r_bipush (pc' := 4) (v := 23) h dX4_isHourOfDay_2 rfl (by decide) ?_
  refine r_callS3 (pc' := 7) (M := mX4_isWithin) h hm dX4_isHourOfDay_4 rfl lX4_227 vX4_isWithin (Nat.le_of_ble_eq_true rfl) (rrb rfl) (kX4_isWithin ?_)
  show AW X G _ _ _ _ _ _ _ _
  refine r_zreturn h hm dX4_isHourOfDay_7 (Nat.le_of_ble_eq_true rfl) (Nat.le_of_ble_eq_true rfl) (by first | rfl | exact nar_b _) ?_
  exact kI hk (by first | rfl | simp [isHour'])
theorem kX4_isDirection {l : Launch} {G : GX} {N : Nat} {S : Nat → va_E} {K : RK} {x : Int32} (hk : K (.inl (some (.int (b2i (isDir' x))))) S) : RetK l G N mX4_isDirection (0, 0, 0, 0) [.int x] S K := by
  refine ret_enter (by decide +kernel) (Nat.le_of_ble_eq_true rfl) (fun X hX h hm => ?_)
  subst hX
  replace h : OK X G N cX4_isDirection RX4 1 (0, 0, 0, 0) := h
  replace hm : OKm X G N K (some .boolean) (0, 0, 0, 0) := hm
  show AW X G 1 N 0 [(0, _)] [] S 0 0
  refine r_iload_n (pc' := 1) h dX4_isDirection_0 rfl rfl ?_
  refine r_bipush (pc' := 3) (v := 78) h dX4_isDirection_1 rfl (by decide) ?_
  refine r_icmp_eq (tgt := 24) (pc' := 6) h dX4_isDirection_3 (by decide) rfl (fun c0 => ?_) (fun c0 => ?_)
  · refine r_iconst (pc' := 25) (v := 1) h dX4_isDirection_24 rfl (by decide) ?_
    refine r_goto (tgt := 29) h dX4_isDirection_25 (by decide) ?_
    refine r_zreturn h hm dX4_isDirection_29 (Nat.le_of_ble_eq_true rfl) (Nat.le_of_ble_eq_true rfl) (by first | rfl | exact nar_b _) ?_
    exact kI hk (by first | rfl | simp [isDir', b2i, c0])
  · refine r_iload_n (pc' := 7) h dX4_isDirection_6 rfl rfl ?_
    refine r_bipush (pc' := 9) (v := 69) h dX4_isDirection_7 rfl (by decide) ?_
    refine r_icmp_eq (tgt := 24) (pc' := 12) h dX4_isDirection_9 (by decide) rfl (fun c1 => ?_) (fun c1 => ?_)
    · refine r_iconst (pc' := 25) (v := 1) h dX4_isDirection_24 rfl (by decide) ?_
      refine r_goto (tgt := 29) h dX4_isDirection_25 (by decide) ?_
      refine r_zreturn h hm dX4_isDirection_29 (Nat.le_of_ble_eq_true rfl) (Nat.le_of_ble_eq_true rfl) (by first | rfl | exact nar_b _) ?_
      exact kI hk (by first | rfl | simp [isDir', b2i, c0, c1])
    · refine r_iload_n (pc' := 13) h dX4_isDirection_12 rfl rfl ?_
      refine r_bipush (pc' := 15) (v := 83) h dX4_isDirection_13 rfl (by decide) ?_
      refine r_icmp_eq (tgt := 24) (pc' := 18) h dX4_isDirection_15 (by decide) rfl (fun c2 => ?_) (fun c2 => ?_)
      · refine r_iconst (pc' := 25) (v := 1) h dX4_isDirection_24 rfl (by decide) ?_
        refine r_goto (tgt := 29) h dX4_isDirection_25 (by decide) ?_
        refine r_zreturn h hm dX4_isDirection_29 (Nat.le_of_ble_eq_true rfl) (Nat.le_of_ble_eq_true rfl) (by first | rfl | exact nar_b _) ?_
        exact kI hk (by first | rfl | simp [isDir', b2i, c0, c1, c2])
      · refine r_iload_n (pc' := 19) h dX4_isDirection_18 rfl rfl ?_
        refine r_bipush (pc' := 21) (v := 87) h dX4_isDirection_19 rfl (by decide) ?_
        refine r_icmp_ne (tgt := 28) (pc' := 24) h dX4_isDirection_21 (by decide) rfl (fun c3 => ?_) (fun c3 => ?_)
        · refine r_iconst (pc' := 29) (v := 0) h dX4_isDirection_28 rfl (by decide) ?_
          refine r_zreturn h hm dX4_isDirection_29 (Nat.le_of_ble_eq_true rfl) (Nat.le_of_ble_eq_true rfl) (by first | rfl | exact nar_b _) ?_
          exact kI hk (by first | rfl | simp [isDir', b2i, c0, c1, c2, c3])
        · refine r_iconst (pc' := 25) (v := 1) h dX4_isDirection_24 rfl (by decide) ?_
          refine r_goto (tgt := 29) h dX4_isDirection_25 (by decide) ?_
          refine r_zreturn h hm dX4_isDirection_29 (Nat.le_of_ble_eq_true rfl) (Nat.le_of_ble_eq_true rfl) (by first | rfl | exact nar_b _) ?_
          exact kI hk (by first | rfl | simp [isDir', b2i, c0, c1, c2, c3])
theorem kX4_isWind {l : Launch} {G : GX} {N : Nat} {S : Nat → va_E} {K : RK} {x y : Int32} (hk : K (.inl (some (.int (b2i (isWind' x y))))) S) : RetK l G N mX4_isWind (1, 22, 0, 0) [.int x, .int y] S K := by
  refine ret_enter (by decide +kernel) (Nat.le_of_ble_eq_true rfl) (fun X hX h hm => ?_)
  subst hX
  replace h : OK X G N cX4_isWind RX4 2 (1, 22, 0, 0) := h
  replace hm : OKm X G N K (some .boolean) (1, 22, 0, 0) := hm
  show AW X G 2 N 0 [(0, _), (1, _)] [] S 0 0
  refine r_iload_n (pc' := 1) h dX4_isWind_0 rfl rfl ?_
  refine r_callS1 (pc' := 4) (M := mX4_isDirection) h hm dX4_isWind_1 rfl lX4_400 vX4_isDirection (Nat.le_of_ble_eq_true rfl) (rrb rfl) (kX4_isDirection ?_)
  show AW X G _ _ _ _ _ _ _ _
  refine r_if_eqb (tgt := 21) (pc' := 7) h dX4_isWind_4 (by decide) rfl (fun c0 => ?_) (fun c0 => ?_)
  · refine r_iconst (pc' := 22) (v := 0) h dX4_isWind_21 rfl (by decide) ?_
    refine r_zreturn h hm dX4_isWind_22 (Nat.le_of_ble_eq_true rfl) (Nat.le_of_ble_eq_true rfl) (by first | rfl | exact nar_b _) ?_
    exact kI hk (by first | rfl | simp [isWind', b2i, c0])
  · refine r_iload_n (pc' := 8) h dX4_isWind_7 rfl rfl ?_
    refine r_iconst (pc' := 9) (v := 0) h dX4_isWind_8 rfl (by decide) ?_
    refine r_bipush (pc' := 11) (v := 30) h dX4_isWind_9 rfl (by decide) ?_
    refine r_callS3 (pc' := 14) (M := mX4_isWithin) h hm dX4_isWind_11 rfl lX4_227 vX4_isWithin (Nat.le_of_ble_eq_true rfl) (rrb rfl) (kX4_isWithin ?_)
    show AW X G _ _ _ _ _ _ _ _
    refine r_if_eqb (tgt := 21) (pc' := 17) h dX4_isWind_14 (by decide) rfl (fun c1 => ?_) (fun c1 => ?_)
    · refine r_iconst (pc' := 22) (v := 0) h dX4_isWind_21 rfl (by decide) ?_
      refine r_zreturn h hm dX4_isWind_22 (Nat.le_of_ble_eq_true rfl) (Nat.le_of_ble_eq_true rfl) (by first | rfl | exact nar_b _) ?_
      exact kI hk (by first | rfl | simp [isWind', b2i, c0, c1])
    · refine r_iconst (pc' := 18) (v := 1) h dX4_isWind_17 rfl (by decide) ?_
      refine r_goto (tgt := 22) h dX4_isWind_18 (by decide) ?_
      refine r_zreturn h hm dX4_isWind_22 (Nat.le_of_ble_eq_true rfl) (Nat.le_of_ble_eq_true rfl) (by first | rfl | exact nar_b _) ?_
      exact kI hk (by first | rfl | simp [isWind', b2i, c0, c1])
theorem kX4_factorOf {l : Launch} {G : GX} {N : Nat} {S : Nat → va_E} {K : RK} {x : Int32} (hk : K (.inl (some (.int (fac' x)))) S) : RetK l G N mX4_factorOf (0, 0, 0, 0) [.int x] S K := by
  refine ret_enter (by decide +kernel) (Nat.le_of_ble_eq_true rfl) (fun X hX h hm => ?_)
  subst hX
  replace h : OK X G N cX4_factorOf RX4 1 (0, 0, 0, 0) := h
  replace hm : OKm X G N K (some .int) (0, 0, 0, 0) := hm
  show AW X G 1 N 0 [(0, _)] [] S 0 0
  refine r_iload_n (pc' := 1) h dX4_factorOf_0 rfl rfl ?_
  refine r_iconst (pc' := 2) (v := 3) h dX4_factorOf_1 rfl (by decide) ?_
  refine r_icmp_lt (tgt := 11) (pc' := 5) h dX4_factorOf_2 (by decide) rfl (fun c0 => ?_) (fun c0 => ?_)
  · refine r_iconst (pc' := 12) (v := 0) h dX4_factorOf_11 rfl (by decide) ?_
    refine r_ireturn h hm dX4_factorOf_12 (Nat.le_of_ble_eq_true rfl) (Nat.le_of_ble_eq_true rfl) ?_
    exact kI hk (by first | rfl | simp [fac', Int32.not_le, Int32.not_lt, c0])
  · refine r_iload_n (pc' := 6) h dX4_factorOf_5 rfl rfl ?_
    refine r_bipush (pc' := 8) (v := 22) h dX4_factorOf_6 rfl (by decide) ?_
    refine r_icmp_le (tgt := 13) (pc' := 11) h dX4_factorOf_8 (by decide) rfl (fun c1 => ?_) (fun c1 => ?_)
    · refine r_iload_n (pc' := 14) h dX4_factorOf_13 rfl rfl ?_
      refine r_iconst (pc' := 15) (v := 4) h dX4_factorOf_14 rfl (by decide) ?_
      refine r_icmp_gt (tgt := 20) (pc' := 18) h dX4_factorOf_15 (by decide) rfl (fun c2 => ?_) (fun c2 => ?_)
      · refine r_iload_n (pc' := 21) h dX4_factorOf_20 rfl rfl ?_
        refine r_bipush (pc' := 23) (v := 7) h dX4_factorOf_21 rfl (by decide) ?_
        refine r_icmp_gt (tgt := 28) (pc' := 26) h dX4_factorOf_23 (by decide) rfl (fun c3 => ?_) (fun c3 => ?_)
        · refine r_iload_n (pc' := 29) h dX4_factorOf_28 rfl rfl ?_
          refine r_bipush (pc' := 31) (v := 11) h dX4_factorOf_29 rfl (by decide) ?_
          refine r_icmp_gt (tgt := 39) (pc' := 34) h dX4_factorOf_31 (by decide) rfl (fun c4 => ?_) (fun c4 => ?_)
          · refine r_bipush (pc' := 41) (v := 10) h dX4_factorOf_39 rfl (by decide) ?_
            refine r_ireturn h hm dX4_factorOf_41 (Nat.le_of_ble_eq_true rfl) (Nat.le_of_ble_eq_true rfl) ?_
            exact kI hk (by first | rfl | simp [fac', Int32.not_le, Int32.not_lt, c0, c1, c2, c3, c4])
          · refine r_bipush (pc' := 36) (v := 8) h dX4_factorOf_34 rfl (by decide) ?_
            refine r_goto (tgt := 41) h dX4_factorOf_36 (by decide) ?_
            refine r_ireturn h hm dX4_factorOf_41 (Nat.le_of_ble_eq_true rfl) (Nat.le_of_ble_eq_true rfl) ?_
            exact kI hk (by first | rfl | simp [fac', Int32.not_le, Int32.not_lt, c0, c1, c2, c3, c4])
        · refine r_iconst (pc' := 27) (v := 5) h dX4_factorOf_26 rfl (by decide) ?_
          refine r_ireturn h hm dX4_factorOf_27 (Nat.le_of_ble_eq_true rfl) (Nat.le_of_ble_eq_true rfl) ?_
          exact kI hk (by first | rfl | simp [fac', Int32.not_le, Int32.not_lt, c0, c1, c2, c3])
      · refine r_iconst (pc' := 19) (v := 2) h dX4_factorOf_18 rfl (by decide) ?_
        refine r_ireturn h hm dX4_factorOf_19 (Nat.le_of_ble_eq_true rfl) (Nat.le_of_ble_eq_true rfl) ?_
        exact kI hk (by first | rfl | simp [fac', Int32.not_le, Int32.not_lt, c0, c1, c2])
    · refine r_iconst (pc' := 12) (v := 0) h dX4_factorOf_11 rfl (by decide) ?_
      refine r_ireturn h hm dX4_factorOf_12 (Nat.le_of_ble_eq_true rfl) (Nat.le_of_ble_eq_true rfl) ?_
      exact kI hk (by first | rfl | simp [fac', Int32.not_le, Int32.not_lt, c0, c1])
theorem kX1_placeOf {l : Launch} {G : GX} {N : Nat} {S : Nat → va_E} {K : RK} {x y : Int32} (hk : K (.inl (some (.int (plc' x y)))) S) : RetK l G N mX1_placeOf (0, 0, 0, 0) [.int x, .int y] S K := by
  refine ret_enter (by decide +kernel) (Nat.le_of_ble_eq_true rfl) (fun X hX h hm => ?_)
  subst hX
  replace h : OK X G N cX1_placeOf RX1 2 (0, 0, 0, 0) := h
  replace hm : OKm X G N K (some .int) (0, 0, 0, 0) := hm
  show AW X G 2 N 0 [(0, _), (1, _)] [] S 0 0
  refine r_iload_n (pc' := 1) h dX1_placeOf_0 rfl rfl ?_
  refine r_iconst (pc' := 2) (v := 2) h dX1_placeOf_1 rfl (by decide) ?_
  refine r_iadd (pc' := 3) h dX1_placeOf_2 rfl ?_
  refine r_bipush (pc' := 5) (v := 10) h dX1_placeOf_3 rfl (by decide) ?_
  refine r_imul (pc' := 6) h dX1_placeOf_5 rfl ?_
  refine r_iload_n (pc' := 7) h dX1_placeOf_6 rfl rfl ?_
  refine r_iadd (pc' := 8) h dX1_placeOf_7 rfl ?_
  refine r_iconst (pc' := 9) (v := 2) h dX1_placeOf_8 rfl (by decide) ?_
  refine r_iadd (pc' := 10) h dX1_placeOf_9 rfl ?_
  refine r_ireturn h hm dX1_placeOf_10 (Nat.le_of_ble_eq_true rfl) (Nat.le_of_ble_eq_true rfl) ?_
  exact kI hk (by first | rfl | simp [plc'])
theorem kX1_stepTowards {l : Launch} {G : GX} {N : Nat} {S : Nat → va_E} {K : RK} {x : Int32} (hk : K (.inl (some (.int (stp' x)))) S) : RetK l G N mX1_stepTowards (0, 0, 0, 0) [.int x] S K := by
  refine ret_enter (by decide +kernel) (Nat.le_of_ble_eq_true rfl) (fun X hX h hm => ?_)
  subst hX
  replace h : OK X G N cX1_stepTowards RX1 1 (0, 0, 0, 0) := h
  replace hm : OKm X G N K (some .int) (0, 0, 0, 0) := hm
  show AW X G 1 N 0 [(0, _)] [] S 0 0
  refine r_iload_n (pc' := 1) h dX1_stepTowards_0 rfl rfl ?_
  refine r_lsw h dX1_stepTowards_1 (by decide) (by decide) ?_
  refine ⟨fun e0 => ?_, fun e0 => ?_⟩
  · have e0 := Int32.toInt_inj.mp (e0.trans (by decide : (69 : Int) = Int32.toInt 69))
    show AW X G _ _ 39 _ _ _ _ _
    refine r_iconst (pc' := 40) (v := 1) h dX1_stepTowards_39 rfl (by decide) ?_
    refine r_ireturn h hm dX1_stepTowards_40 (Nat.le_of_ble_eq_true rfl) (Nat.le_of_ble_eq_true rfl) ?_
    exact kI hk (by first | rfl | simp [stp', e0])
  · have e0 : ¬ _ = (69 : Int32) := fun z => e0 ((congrArg Int32.toInt z).trans (by decide : Int32.toInt 69 = (69 : Int)))
    refine ⟨fun e1 => ?_, fun e1 => ?_⟩
    · have e1 := Int32.toInt_inj.mp (e1.trans (by decide : (78 : Int) = Int32.toInt 78))
      show AW X G _ _ 36 _ _ _ _ _
      refine r_bipush (pc' := 38) (v := -10) h dX1_stepTowards_36 rfl (by decide) ?_
      refine r_ireturn h hm dX1_stepTowards_38 (Nat.le_of_ble_eq_true rfl) (Nat.le_of_ble_eq_true rfl) ?_
      exact kI hk (by first | rfl | simp [stp', e0, e1])
    · have e1 : ¬ _ = (78 : Int32) := fun z => e1 ((congrArg Int32.toInt z).trans (by decide : Int32.toInt 78 = (78 : Int)))
      refine ⟨fun e2 => ?_, fun e2 => ?_⟩
      · have e2 := Int32.toInt_inj.mp (e2.trans (by decide : (83 : Int) = Int32.toInt 83))
        show AW X G _ _ 41 _ _ _ _ _
        refine r_bipush (pc' := 43) (v := 10) h dX1_stepTowards_41 rfl (by decide) ?_
        refine r_ireturn h hm dX1_stepTowards_43 (Nat.le_of_ble_eq_true rfl) (Nat.le_of_ble_eq_true rfl) ?_
        exact kI hk (by first | rfl | simp [stp', e0, e1, e2])
      · have e2 : ¬ _ = (83 : Int32) := fun z => e2 ((congrArg Int32.toInt z).trans (by decide : Int32.toInt 83 = (83 : Int)))
        show AW X G _ _ 44 _ _ _ _ _
        refine r_iconst (pc' := 45) (v := -1) h dX1_stepTowards_44 rfl (by decide) ?_
        refine r_ireturn h hm dX1_stepTowards_45 (Nat.le_of_ble_eq_true rfl) (Nat.le_of_ble_eq_true rfl) ?_
        exact kI hk (by first | rfl | simp [stp', e0, e1, e2])
theorem kX1_wakeOf {l : Launch} {G : GX} {N : Nat} {S : Nat → va_E} {K : RK} {x y : Bool} (hk : K (.inl (some (.int (wak' x y)))) S) : RetK l G N mX1_wakeOf (0, 0, 0, 0) [.int (b2i x), .int (b2i y)] S K := by
  refine ret_enter (by decide +kernel) (Nat.le_of_ble_eq_true rfl) (fun X hX h hm => ?_)
  subst hX
  replace h : OK X G N cX1_wakeOf RX1 2 (0, 0, 0, 0) := h
  replace hm : OKm X G N K (some .int) (0, 0, 0, 0) := hm
  show AW X G 2 N 0 [(0, _), (1, _)] [] S 0 0
  refine r_iload_n (pc' := 1) h dX1_wakeOf_0 rfl rfl ?_
  refine r_if_eqb (tgt := 8) (pc' := 4) h dX1_wakeOf_1 (by decide) rfl (fun c0 => ?_) (fun c0 => ?_)
  · refine r_iconst (pc' := 9) (v := 0) h dX1_wakeOf_8 rfl (by decide) ?_
    refine r_iload_n (pc' := 10) h dX1_wakeOf_9 rfl rfl ?_
    refine r_if_eqb (tgt := 17) (pc' := 13) h dX1_wakeOf_10 (by decide) rfl (fun c1 => ?_) (fun c1 => ?_)
    · refine r_iconst (pc' := 18) (v := 0) h dX1_wakeOf_17 rfl (by decide) ?_
      refine r_iadd (pc' := 19) h dX1_wakeOf_18 rfl ?_
      refine r_ireturn h hm dX1_wakeOf_19 (Nat.le_of_ble_eq_true rfl) (Nat.le_of_ble_eq_true rfl) ?_
      exact kI hk (by first | rfl | simp [wak', c0, c1])
    · refine r_iconst (pc' := 14) (v := 1) h dX1_wakeOf_13 rfl (by decide) ?_
      refine r_goto (tgt := 18) h dX1_wakeOf_14 (by decide) ?_
      refine r_iadd (pc' := 19) h dX1_wakeOf_18 rfl ?_
      refine r_ireturn h hm dX1_wakeOf_19 (Nat.le_of_ble_eq_true rfl) (Nat.le_of_ble_eq_true rfl) ?_
      exact kI hk (by first | rfl | simp [wak', c0, c1])
  · refine r_iconst (pc' := 5) (v := 3) h dX1_wakeOf_4 rfl (by decide) ?_
    refine r_goto (tgt := 9) h dX1_wakeOf_5 (by decide) ?_
    refine r_iload_n (pc' := 10) h dX1_wakeOf_9 rfl rfl ?_
    refine r_if_eqb (tgt := 17) (pc' := 13) h dX1_wakeOf_10 (by decide) rfl (fun c2 => ?_) (fun c2 => ?_)
    · refine r_iconst (pc' := 18) (v := 0) h dX1_wakeOf_17 rfl (by decide) ?_
      refine r_iadd (pc' := 19) h dX1_wakeOf_18 rfl ?_
      refine r_ireturn h hm dX1_wakeOf_19 (Nat.le_of_ble_eq_true rfl) (Nat.le_of_ble_eq_true rfl) ?_
      exact kI hk (by first | rfl | simp [wak', c0, c2])
    · refine r_iconst (pc' := 14) (v := 1) h dX1_wakeOf_13 rfl (by decide) ?_
      refine r_goto (tgt := 18) h dX1_wakeOf_14 (by decide) ?_
      refine r_iadd (pc' := 19) h dX1_wakeOf_18 rfl ?_
      refine r_ireturn h hm dX1_wakeOf_19 (Nat.le_of_ble_eq_true rfl) (Nat.le_of_ble_eq_true rfl) ?_
      exact kI hk (by first | rfl | simp [wak', c0, c2])
theorem kX1_hasTurbine {l : Launch} {G : GX} {N : Nat} {S : Nat → va_E} {K : RK} {b : Nat} {F : FM} (hF : isF G N S b F) {t : Int32} (hk : K (.inl (some (.int (b2i (hasT F t))))) S) : RetK l G N mX1_hasTurbine (0, 0, 0, 0) [.ref (ad G b), .int t] S K := by
  refine ret_enter (by decide +kernel) (Nat.le_of_ble_eq_true rfl) (fun X hX h hm => ?_)
  subst hX
  replace h : OK X G N cX1_hasTurbine RX1 2 (0, 0, 0, 0) := h
  replace hm : OKm X G N K (some .boolean) (0, 0, 0, 0) := hm
  show AW X G 2 N 0 [(0, _), (1, _)] [] S 0 0
  refine r_iload_n (pc' := 1) h dX1_hasTurbine_0 rfl rfl ?_
  refine r_if_lt (tgt := 16) (pc' := 4) h dX1_hasTurbine_1 (by decide) rfl (fun c0 => ?_) (fun c0 => ?_)
  · refine r_iconst (pc' := 17) (v := 0) h dX1_hasTurbine_16 rfl (by decide) ?_
    refine r_zreturn h hm dX1_hasTurbine_17 (Nat.le_of_ble_eq_true rfl) (Nat.le_of_ble_eq_true rfl) (by first | rfl | exact nar_b _) ?_
    exact kI hk (by first | rfl | simp [hasT, b2i, c0])
  · refine r_iload_n (pc' := 5) h dX1_hasTurbine_4 rfl rfl ?_
    refine r_aload_n (pc' := 6) h dX1_hasTurbine_5 rfl rfl ?_
    refine gX1_51 (pc' := 9) h dX1_hasTurbine_6 rfl hF.l0 hF.o rfl ?_
    refine r_icmp_ge (tgt := 16) (pc' := 12) h dX1_hasTurbine_9 (by decide) rfl (fun c1 => ?_) (fun c1 => ?_)
    · refine r_iconst (pc' := 17) (v := 0) h dX1_hasTurbine_16 rfl (by decide) ?_
      refine r_zreturn h hm dX1_hasTurbine_17 (Nat.le_of_ble_eq_true rfl) (Nat.le_of_ble_eq_true rfl) (by first | rfl | exact nar_b _) ?_
      exact kI hk (by first | rfl | simp [hasT, b2i, c0, c1])
    · refine r_iconst (pc' := 13) (v := 1) h dX1_hasTurbine_12 rfl (by decide) ?_
      refine r_goto (tgt := 17) h dX1_hasTurbine_13 (by decide) ?_
      refine r_zreturn h hm dX1_hasTurbine_17 (Nat.le_of_ble_eq_true rfl) (Nat.le_of_ble_eq_true rfl) (by first | rfl | exact nar_b _) ?_
      exact kI hk (by first | rfl | simp [hasT, b2i, c0, c1])
theorem kX1_isInState {l : Launch} {G : GX} {N : Nat} {S : Nat → va_E} {K : RK} {b : Nat} {F : FM} (hF : isF G N S b F) {t st : Int32} (hk : K (.inl (some (.int (b2i (inSt F t st))))) S) : RetK l G N mX1_isInState (0, 0, 0, 0) [.ref (ad G b), .int t, .int st] S K := by
  refine ret_enter (by decide +kernel) (Nat.le_of_ble_eq_true rfl) (fun X hX h hm => ?_)
  subst hX
  replace h : OK X G N cX1_isInState RX1 3 (0, 0, 0, 0) := h
  replace hm : OKm X G N K (some .boolean) (0, 0, 0, 0) := hm
  show AW X G 3 N 0 [(0, _), (1, _), (2, _)] [] S 0 0
  refine r_iload_n (pc' := 1) h dX1_isInState_0 rfl rfl ?_
  refine r_if_lt (tgt := 27) (pc' := 4) h dX1_isInState_1 (by decide) rfl (fun c0 => ?_) (fun c0 => ?_)
  · refine r_iconst (pc' := 28) (v := 0) h dX1_isInState_27 rfl (by decide) ?_
    refine r_zreturn h hm dX1_isInState_28 (Nat.le_of_ble_eq_true rfl) (Nat.le_of_ble_eq_true rfl) (by first | rfl | exact nar_b _) ?_
    exact kI hk (by first | rfl | simp [inSt, b2i, c0])
  · refine r_iload_n (pc' := 5) h dX1_isInState_4 rfl rfl ?_
    refine r_aload_n (pc' := 6) h dX1_isInState_5 rfl rfl ?_
    refine gX1_21 (pc' := 9) h dX1_isInState_6 rfl hF.l0 hF.o rfl ?_
    refine r_alen (pc' := 10) (t := 0) h dX1_isInState_9 rfl hF.l4 hF.r4 rfl ?_
    refine r_icmp_ge (tgt := 27) (pc' := 13) h dX1_isInState_10 (by decide) rfl (fun c1 => ?_) (fun c1 => ?_)
    · refine r_iconst (pc' := 28) (v := 0) h dX1_isInState_27 rfl (by decide) ?_
      refine r_zreturn h hm dX1_isInState_28 (Nat.le_of_ble_eq_true rfl) (Nat.le_of_ble_eq_true rfl) (by first | rfl | exact nar_b _) ?_
      exact kI hk (by first | rfl | simp [inSt, b2i, c0, c1])
    · refine r_aload_n (pc' := 14) h dX1_isInState_13 rfl rfl ?_
      refine gX1_21 (pc' := 17) h dX1_isInState_14 rfl hF.l0 hF.o rfl ?_
      refine r_iload_n (pc' := 18) h dX1_isInState_17 rfl rfl ?_
      refine r_iald (pc' := 19) h dX1_isInState_18 rfl hF.l4 hF.r4 (vp_in_c (by decide) c0 c1) ?_
      refine r_iload_n (pc' := 20) h dX1_isInState_19 rfl rfl ?_
      refine r_icmp_ne (tgt := 27) (pc' := 23) h dX1_isInState_20 (by decide) rfl (fun c2 => ?_) (fun c2 => ?_)
      · refine r_iconst (pc' := 28) (v := 0) h dX1_isInState_27 rfl (by decide) ?_
        refine r_zreturn h hm dX1_isInState_28 (Nat.le_of_ble_eq_true rfl) (Nat.le_of_ble_eq_true rfl) (by first | rfl | exact nar_b _) ?_
        exact kI hk (by first | rfl | simp [inSt, b2i, c0, c1, c2])
      · refine r_iconst (pc' := 24) (v := 1) h dX1_isInState_23 rfl (by decide) ?_
        refine r_goto (tgt := 28) h dX1_isInState_24 (by decide) ?_
        refine r_zreturn h hm dX1_isInState_28 (Nat.le_of_ble_eq_true rfl) (Nat.le_of_ble_eq_true rfl) (by first | rfl | exact nar_b _) ?_
        exact kI hk (by first | rfl | simp [inSt, b2i, c0, c1, c2])
theorem kX1_turbineIn {l : Launch} {G : GX} {N : Nat} {S : Nat → va_E} {K : RK} {b : Nat} {F : FM} (hF : isF G N S b F) {r c : Int32} (hk : K (.inl (some (.int (tIn F r c)))) S) : RetK l G N mX1_turbineIn (1, 21, 0, 0) [.ref (ad G b), .int r, .int c] S K := by
  refine ret_enter (by decide +kernel) (Nat.le_of_ble_eq_true rfl) (fun X hX h hm => ?_)
  subst hX
  replace h : OK X G N cX1_turbineIn RX1 3 (1, 21, 0, 0) := h
  replace hm : OKm X G N K (some .int) (1, 21, 0, 0) := hm
  show AW X G 3 N 0 [(0, _), (1, _), (2, _)] [] S 0 0
  refine r_aload_n (pc' := 1) h dX1_turbineIn_0 rfl rfl ?_
  refine gX1_30 (pc' := 4) h dX1_turbineIn_1 rfl hF.l0 hF.o rfl ?_
  refine r_iload_n (pc' := 5) h dX1_turbineIn_4 rfl rfl ?_
  refine r_iload_n (pc' := 6) h dX1_turbineIn_5 rfl rfl ?_
  refine r_callS2 (pc' := 9) (M := mX1_placeOf) h hm dX1_turbineIn_6 rfl lX1_76 vX1_placeOf (Nat.le_of_ble_eq_true rfl) (rrb rfl) (kX1_placeOf ?_)
  show AW X G _ _ _ _ _ _ _ _
  refine r_callSN2 (pc' := 12) (M := mX4_valueAt) h hm dX1_turbineIn_9 rfl lX1_80 vX4_valueAt (Nat.le_of_ble_eq_true rfl) (rrb rfl) (kX4_valueAt hF.l7 hF.r7 (by decide) ?_)
  show AW X G _ _ _ _ _ _ _ _
  refine r_iconst (pc' := 13) (v := 1) h dX1_turbineIn_12 rfl (by decide) ?_
  refine r_isub (pc' := 14) h dX1_turbineIn_13 rfl ?_
  refine r_ireturn h hm dX1_turbineIn_14 (Nat.le_of_ble_eq_true rfl) (Nat.le_of_ble_eq_true rfl) ?_
  exact kI hk (by first | rfl | simp [tIn])
theorem kX1_isCurtailed {l : Launch} {G : GX} {N : Nat} {S : Nat → va_E} {K : RK} {b : Nat} {F : FM} (hF : isF G N S b F) {t : Int32} (hk : K (.inl (some (.int (b2i (curt F t))))) S) : RetK l G N mX1_isCurtailed (1, 22, 0, 0) [.ref (ad G b), .int t] S K := by
  refine ret_enter (by decide +kernel) (Nat.le_of_ble_eq_true rfl) (fun X hX h hm => ?_)
  subst hX
  replace h : OK X G N cX1_isCurtailed RX1 2 (1, 22, 0, 0) := h
  replace hm : OKm X G N K (some .boolean) (1, 22, 0, 0) := hm
  show AW X G 2 N 0 [(0, _), (1, _)] [] S 0 0
  refine r_aload_n (pc' := 1) h dX1_isCurtailed_0 rfl rfl ?_
  refine r_iload_n (pc' := 2) h dX1_isCurtailed_1 rfl rfl ?_
  refine r_iconst (pc' := 3) (v := 1) h dX1_isCurtailed_2 rfl (by decide) ?_
  refine r_callV2 (pc' := 6) (M := mX1_isInState) h hm dX1_isCurtailed_3 rfl lX1_84 vX1_isInState rfl hF.l0 hF.o (Nat.le_of_ble_eq_true rfl) (rrb rfl) (kX1_isInState hF ?_)
  show AW X G _ _ _ _ _ _ _ _
  refine r_if_eqb (tgt := 25) (pc' := 9) h dX1_isCurtailed_6 (by decide) rfl (fun c0 => ?_) (fun c0 => ?_)
  · refine r_iconst (pc' := 26) (v := 0) h dX1_isCurtailed_25 rfl (by decide) ?_
    refine r_zreturn h hm dX1_isCurtailed_26 (Nat.le_of_ble_eq_true rfl) (Nat.le_of_ble_eq_true rfl) (by first | rfl | exact nar_b _) ?_
    exact kI hk (by first | rfl | simp [curt, b2i, c0])
  · refine r_aload_n (pc' := 10) h dX1_isCurtailed_9 rfl rfl ?_
    refine gX1_24 (pc' := 13) h dX1_isCurtailed_10 rfl hF.l0 hF.o rfl ?_
    refine r_iload_n (pc' := 14) h dX1_isCurtailed_13 rfl rfl ?_
    refine r_callSN2 (pc' := 17) (M := mX4_valueAt) h hm dX1_isCurtailed_14 rfl lX1_80 vX4_valueAt (Nat.le_of_ble_eq_true rfl) (rrb rfl) (kX4_valueAt hF.l5 hF.r5 (by decide) ?_)
    show AW X G _ _ _ _ _ _ _ _
    refine r_iconst (pc' := 18) (v := -1) h dX1_isCurtailed_17 rfl (by decide) ?_
    refine r_icmp_eq (tgt := 25) (pc' := 21) h dX1_isCurtailed_18 (by decide) rfl (fun c1 => ?_) (fun c1 => ?_)
    · refine r_iconst (pc' := 26) (v := 0) h dX1_isCurtailed_25 rfl (by decide) ?_
      refine r_zreturn h hm dX1_isCurtailed_26 (Nat.le_of_ble_eq_true rfl) (Nat.le_of_ble_eq_true rfl) (by first | rfl | exact nar_b _) ?_
      exact kI hk (by first | rfl | simp [curt, b2i, c0, c1])
    · refine r_iconst (pc' := 22) (v := 1) h dX1_isCurtailed_21 rfl (by decide) ?_
      refine r_goto (tgt := 26) h dX1_isCurtailed_22 (by decide) ?_
      refine r_zreturn h hm dX1_isCurtailed_26 (Nat.le_of_ble_eq_true rfl) (Nat.le_of_ble_eq_true rfl) (by first | rfl | exact nar_b _) ?_
      exact kI hk (by first | rfl | simp [curt, b2i, c0, c1])
theorem kX1_countInState {l : Launch} {G : GX} {N : Nat} {S : Nat → va_E} {K : RK} {b : Nat} {F : FM} (hF : isF G N S b F) {st : Int32} (hw : wF F) (hk : K (.inl (some (.int (cSt F st (fN F))))) S) : RetK l G N mX1_countInState (1, 22, 0, 0) [.ref (ad G b), .int st] S K := by
  refine ret_enter (by decide +kernel) (Nat.le_of_ble_eq_true rfl) (fun X hX h hm => ?_)
  subst hX
  replace h : OK X G N cX1_countInState RX1 4 (1, 22, 0, 0) := h
  replace hm : OKm X G N K (some .int) (1, 22, 0, 0) := hm
  show AW X G 4 N 0 [(0, _), (1, _)] [] S 0 0
  refine r_iconst (pc' := 1) (v := 0) h dX1_countInState_0 rfl (by decide) ?_
  refine r_istoren (j := 2) (pc' := 2) h rfl dX1_countInState_1 rfl (by decide) rfl ?_
  refine r_iconst (pc' := 3) (v := 0) h dX1_countInState_2 rfl (by decide) ?_
  refine r_istoren (j := 3) (pc' := 4) h rfl dX1_countInState_3 rfl (by decide) rfl ?_
  have loop : ∀ (n j : Nat), j ≤ fN F → fN F - j < n → AW X G 4 N 4 [(0, .ref (ad G b)), (1, .int st), (2, .int (cSt F st j)), (3, .int (nI j))] [] S 0 0 := by
    intro n
    induction n with
    | zero => intro j h1 h2; exact absurd h2 (by omega)
    | succ n ih =>
      intro j h1 h2
      refine r_iload_n (pc' := 5) h dX1_countInState_4 rfl rfl ?_
      refine r_aload_n (pc' := 6) h dX1_countInState_5 rfl rfl ?_
      refine gX1_51 (pc' := 9) h dX1_countInState_6 rfl hF.l0 hF.o rfl ?_
      refine r_icmp_ge (tgt := 30) (pc' := 12) h dX1_countInState_9 (by decide) rfl (fun c0 => ?_) (fun c0 => ?_)
      · have ej := lp_ge (c := fN F) hw.1 (by have := hw.2; omega) h1 c0
        subst ej
        refine r_iload_n (pc' := 31) h dX1_countInState_30 rfl rfl ?_
        refine r_ireturn h hm dX1_countInState_31 (Nat.le_of_ble_eq_true rfl) (Nat.le_of_ble_eq_true rfl) ?_
        exact kI hk (by first | rfl | simp [cSt, c0])
      · have hj := lp_lt (c := fN F) hw.1 (by have := hw.2; omega) h1 c0
        refine r_aload_n (pc' := 13) h dX1_countInState_12 rfl rfl ?_
        refine r_iload_n (pc' := 14) h dX1_countInState_13 rfl rfl ?_
        refine r_iload_n (pc' := 15) h dX1_countInState_14 rfl rfl ?_
        refine r_callV2 (pc' := 18) (M := mX1_isInState) h hm dX1_countInState_15 rfl lX1_84 vX1_isInState rfl hF.l0 hF.o (Nat.le_of_ble_eq_true rfl) (rrb rfl) (kX1_isInState hF ?_)
        show AW X G _ _ _ _ _ _ _ _
        refine r_if_eqb (tgt := 24) (pc' := 21) h dX1_countInState_18 (by decide) rfl (fun c1 => ?_) (fun c1 => ?_)
        · refine r_iinc (pc' := 27) (v := 1) h dX1_countInState_24 rfl (by decide) (by decide) rfl rfl ?_
          refine r_goto (tgt := 4) h dX1_countInState_27 (by decide) ?_
          exact aw_cast (by simp [cSt, nI_1, c0, c1]) (ih (j + 1) (by omega) (by omega))
        · refine r_iinc (pc' := 24) (v := 1) h dX1_countInState_21 rfl (by decide) (by decide) rfl rfl ?_
          refine r_iinc (pc' := 27) (v := 1) h dX1_countInState_24 rfl (by decide) (by decide) rfl rfl ?_
          refine r_goto (tgt := 4) h dX1_countInState_27 (by decide) ?_
          exact aw_cast (by simp [cSt, nI_1, c0, c1]) (ih (j + 1) (by omega) (by omega))
  exact loop (fN F + 1) 0 (Nat.zero_le _) (by omega)
theorem kX1_crewsLeft {l : Launch} {G : GX} {N : Nat} {S : Nat → va_E} {K : RK} {b : Nat} {F : FM} (hF : isF G N S b F) (hw : wF F) (hk : K (.inl (some (.int (crews F)))) S) : RetK l G N mX1_crewsLeft (2, 45, 0, 0) [.ref (ad G b)] S K := by
  refine ret_enter (by decide +kernel) (Nat.le_of_ble_eq_true rfl) (fun X hX h hm => ?_)
  subst hX
  replace h : OK X G N cX1_crewsLeft RX1 1 (2, 45, 0, 0) := h
  replace hm : OKm X G N K (some .int) (2, 45, 0, 0) := hm
  show AW X G 1 N 0 [(0, _)] [] S 0 0
  refine r_iconst (pc' := 1) (v := 2) h dX1_crewsLeft_0 rfl (by decide) ?_
  refine r_aload_n (pc' := 2) h dX1_crewsLeft_1 rfl rfl ?_
  refine r_iconst (pc' := 3) (v := 3) h dX1_crewsLeft_2 rfl (by decide) ?_
  refine r_callV1 (pc' := 6) (M := mX1_countInState) h hm dX1_crewsLeft_3 rfl lX1_88 vX1_countInState rfl hF.l0 hF.o (Nat.le_of_ble_eq_true rfl) (rrb rfl) (kX1_countInState hF hw ?_)
  show AW X G _ _ _ _ _ _ _ _
  refine r_isub (pc' := 7) h dX1_crewsLeft_6 rfl ?_
  refine r_ireturn h hm dX1_crewsLeft_7 (Nat.le_of_ble_eq_true rfl) (Nat.le_of_ble_eq_true rfl) ?_
  exact kI hk (by first | rfl | simp [crews])
theorem kX1_firstInService {l : Launch} {G : GX} {N : Nat} {S : Nat → va_E} {K : RK} {b : Nat} {F : FM} (hF : isF G N S b F) (hw : wF F) (hk : K (.inl (some (.int (fSv F 0 (fN F))))) S) : RetK l G N mX1_firstInService (1, 22, 0, 0) [.ref (ad G b)] S K := by
  refine ret_enter (by decide +kernel) (Nat.le_of_ble_eq_true rfl) (fun X hX h hm => ?_)
  subst hX
  replace h : OK X G N cX1_firstInService RX1 2 (1, 22, 0, 0) := h
  replace hm : OKm X G N K (some .int) (1, 22, 0, 0) := hm
  show AW X G 2 N 0 [(0, _)] [] S 0 0
  refine r_iconst (pc' := 1) (v := 0) h dX1_firstInService_0 rfl (by decide) ?_
  refine r_istoren (j := 1) (pc' := 2) h rfl dX1_firstInService_1 rfl (by decide) rfl ?_
  have loop : ∀ (n j : Nat), j ≤ fN F → fN F - j < n → fSv F j (fN F - j) = fSv F 0 (fN F) → AW X G 2 N 2 [(0, .ref (ad G b)), (1, .int (nI j))] [] S 0 0 := by
    intro n
    induction n with
    | zero => intro j h1 h2; exact absurd h2 (by omega)
    | succ n ih =>
      intro j h1 h2 hv
      refine r_iload_n (pc' := 3) h dX1_firstInService_2 rfl rfl ?_
      refine r_aload_n (pc' := 4) h dX1_firstInService_3 rfl rfl ?_
      refine gX1_51 (pc' := 7) h dX1_firstInService_4 rfl hF.l0 hF.o rfl ?_
      refine r_icmp_ge (tgt := 27) (pc' := 10) h dX1_firstInService_7 (by decide) rfl (fun c0 => ?_) (fun c0 => ?_)
      · have ej := lp_ge hw.1 (by have := hw.2; omega) h1 c0
        subst ej
        rw [Nat.sub_self] at hv
        refine r_iconst (pc' := 28) (v := -1) h dX1_firstInService_27 rfl (by decide) ?_
        refine r_ireturn h hm dX1_firstInService_28 (Nat.le_of_ble_eq_true rfl) (Nat.le_of_ble_eq_true rfl) ?_
        exact kI hk (by rw [← hv]; simp [fSv])
      · have hj := lp_lt hw.1 (by have := hw.2; omega) h1 c0
        refine r_aload_n (pc' := 11) h dX1_firstInService_10 rfl rfl ?_
        refine r_iload_n (pc' := 12) h dX1_firstInService_11 rfl rfl ?_
        refine r_iconst (pc' := 13) (v := 3) h dX1_firstInService_12 rfl (by decide) ?_
        refine r_callV2 (pc' := 16) (M := mX1_isInState) h hm dX1_firstInService_13 rfl lX1_84 vX1_isInState rfl hF.l0 hF.o (Nat.le_of_ble_eq_true rfl) (rrb rfl) (kX1_isInState hF ?_)
        show AW X G _ _ _ _ _ _ _ _
        refine r_if_eqb (tgt := 21) (pc' := 19) h dX1_firstInService_16 (by decide) rfl (fun c1 => ?_) (fun c1 => ?_)
        · refine r_iinc (pc' := 24) (v := 1) h dX1_firstInService_21 rfl (by decide) (by decide) rfl rfl ?_
          refine r_goto (tgt := 2) h dX1_firstInService_24 (by decide) ?_
          refine aw_cast (by simp [nI_1]) (ih (j + 1) (by omega) (by omega) ?_)
          rw [← hv]
          obtain ⟨k, hk9⟩ : ∃ k, fN F - j = k + 1 := ⟨fN F - j - 1, by omega⟩
          rw [show fN F - (j + 1) = k by omega, hk9]
          simp [fSv, c0, c1]
        · refine r_iload_n (pc' := 20) h dX1_firstInService_19 rfl rfl ?_
          refine r_ireturn h hm dX1_firstInService_20 (Nat.le_of_ble_eq_true rfl) (Nat.le_of_ble_eq_true rfl) ?_
          exact kI hk (by rw [← hv]; obtain ⟨k, hk9⟩ : ∃ k, fN F - j = k + 1 := ⟨fN F - j - 1, by omega⟩; rw [hk9]; simp [fSv, c0, c1])
  exact loop (fN F + 1) 0 (Nat.zero_le _) (by omega) rfl
theorem kX1_isBidFor {l : Launch} {G : GX} {N : Nat} {S : Nat → va_E} {K : RK} {b : Nat} {F : FM} (hF : isF G N S b F) {x : Int32} (hk : K (.inl (some (.int (b2i (bidF F x))))) S) : RetK l G N mX1_isBidFor (1, 21, 0, 0) [.ref (ad G b), .int x] S K := by
  refine ret_enter (by decide +kernel) (Nat.le_of_ble_eq_true rfl) (fun X hX h hm => ?_)
  subst hX
  replace h : OK X G N cX1_isBidFor RX1 2 (1, 21, 0, 0) := h
  replace hm : OKm X G N K (some .boolean) (1, 21, 0, 0) := hm
  show AW X G 2 N 0 [(0, _), (1, _)] [] S 0 0
  refine r_aload_n (pc' := 1) h dX1_isBidFor_0 rfl rfl ?_
  refine gX1_36 (pc' := 4) h dX1_isBidFor_1 rfl hF.l0 hF.o rfl ?_
  refine r_iload_n (pc' := 5) h dX1_isBidFor_4 rfl rfl ?_
  refine r_callSN2 (pc' := 8) (M := mX4_valueAt) h hm dX1_isBidFor_5 rfl lX1_80 vX4_valueAt (Nat.le_of_ble_eq_true rfl) (rrb rfl) (kX4_valueAt hF.l9 hF.r9 (by decide) ?_)
  show AW X G _ _ _ _ _ _ _ _
  refine r_if_le (tgt := 15) (pc' := 11) h dX1_isBidFor_8 (by decide) rfl (fun c0 => ?_) (fun c0 => ?_)
  · refine r_iconst (pc' := 16) (v := 0) h dX1_isBidFor_15 rfl (by decide) ?_
    refine r_zreturn h hm dX1_isBidFor_16 (Nat.le_of_ble_eq_true rfl) (Nat.le_of_ble_eq_true rfl) (by first | rfl | exact nar_b _) ?_
    exact kI hk (by first | rfl | simp [bidF, b2i, c0])
  · refine r_iconst (pc' := 12) (v := 1) h dX1_isBidFor_11 rfl (by decide) ?_
    refine r_goto (tgt := 16) h dX1_isBidFor_12 (by decide) ?_
    refine r_zreturn h hm dX1_isBidFor_16 (Nat.le_of_ble_eq_true rfl) (Nat.le_of_ble_eq_true rfl) (by first | rfl | exact nar_b _) ?_
    exact kI hk (by first | rfl | simp [bidF, b2i, c0])
theorem kX1_countBids {l : Launch} {G : GX} {N : Nat} {S : Nat → va_E} {K : RK} {b : Nat} {F : FM} (hF : isF G N S b F) (hk : K (.inl (some (.int (cBd F 24)))) S) : RetK l G N mX1_countBids (2, 42, 0, 0) [.ref (ad G b)] S K := by
  refine ret_enter (by decide +kernel) (Nat.le_of_ble_eq_true rfl) (fun X hX h hm => ?_)
  subst hX
  replace h : OK X G N cX1_countBids RX1 3 (2, 42, 0, 0) := h
  replace hm : OKm X G N K (some .int) (2, 42, 0, 0) := hm
  show AW X G 3 N 0 [(0, _)] [] S 0 0
  refine r_iconst (pc' := 1) (v := 0) h dX1_countBids_0 rfl (by decide) ?_
  refine r_istoren (j := 1) (pc' := 2) h rfl dX1_countBids_1 rfl (by decide) rfl ?_
  refine r_iconst (pc' := 3) (v := 0) h dX1_countBids_2 rfl (by decide) ?_
  refine r_istoren (j := 2) (pc' := 4) h rfl dX1_countBids_3 rfl (by decide) rfl ?_
  have loop : ∀ (n j : Nat), j ≤ 24 → 24 - j < n → AW X G 3 N 4 [(0, .ref (ad G b)), (1, .int (cBd F j)), (2, .int (nI j))] [] S 0 0 := by
    intro n
    induction n with
    | zero => intro j h1 h2; exact absurd h2 (by omega)
    | succ n ih =>
      intro j h1 h2
      refine r_iload_n (pc' := 5) h dX1_countBids_4 rfl rfl ?_
      refine r_bipush (pc' := 7) (v := 24) h dX1_countBids_5 rfl (by decide) ?_
      refine r_icmp_ge (tgt := 27) (pc' := 10) h dX1_countBids_7 (by decide) rfl (fun c0 => ?_) (fun c0 => ?_)
      · have ej := lp_ge (c := 24) (rfl : (24 : Int32) = nI 24) (by decide) h1 c0
        subst ej
        refine r_iload_n (pc' := 28) h dX1_countBids_27 rfl rfl ?_
        refine r_ireturn h hm dX1_countBids_28 (Nat.le_of_ble_eq_true rfl) (Nat.le_of_ble_eq_true rfl) ?_
        exact kI hk (by first | rfl | simp [cBd, c0])
      · have hj := lp_lt (c := 24) (rfl : (24 : Int32) = nI 24) (by decide) h1 c0
        refine r_aload_n (pc' := 11) h dX1_countBids_10 rfl rfl ?_
        refine r_iload_n (pc' := 12) h dX1_countBids_11 rfl rfl ?_
        refine r_callV1 (pc' := 15) (M := mX1_isBidFor) h hm dX1_countBids_12 rfl lX1_92 vX1_isBidFor rfl hF.l0 hF.o (Nat.le_of_ble_eq_true rfl) (rrb rfl) (kX1_isBidFor hF ?_)
        show AW X G _ _ _ _ _ _ _ _
        refine r_if_eqb (tgt := 21) (pc' := 18) h dX1_countBids_15 (by decide) rfl (fun c1 => ?_) (fun c1 => ?_)
        · refine r_iinc (pc' := 24) (v := 1) h dX1_countBids_21 rfl (by decide) (by decide) rfl rfl ?_
          refine r_goto (tgt := 4) h dX1_countBids_24 (by decide) ?_
          exact aw_cast (by simp [cBd, nI_1, c0, c1]) (ih (j + 1) (by omega) (by omega))
        · refine r_iinc (pc' := 21) (v := 1) h dX1_countBids_18 rfl (by decide) (by decide) rfl rfl ?_
          refine r_iinc (pc' := 24) (v := 1) h dX1_countBids_21 rfl (by decide) (by decide) rfl rfl ?_
          refine r_goto (tgt := 4) h dX1_countBids_24 (by decide) ?_
          exact aw_cast (by simp [cBd, nI_1, c0, c1]) (ih (j + 1) (by omega) (by omega))
  exact loop 25 0 (Nat.zero_le _) (by omega)
theorem kX1_lossIn {l : Launch} {G : GX} {N : Nat} {S : Nat → va_E} {K : RK} {b : Nat} {F : FM} (hF : isF G N S b F) {t d : Int32} (hk : K (.inl (some (.int (los F t d)))) S) : RetK l G N mX1_lossIn (1, 22, 0, 0) [.ref (ad G b), .int t, .int d] S K := by
  refine ret_enter (by decide +kernel) (Nat.le_of_ble_eq_true rfl) (fun X hX h hm => ?_)
  subst hX
  replace h : OK X G N cX1_lossIn RX1 7 (1, 22, 0, 0) := h
  replace hm : OKm X G N K (some .int) (1, 22, 0, 0) := hm
  show AW X G 7 N 0 [(0, _), (1, _), (2, _)] [] S 0 0
  refine r_aload_n (pc' := 1) h dX1_lossIn_0 rfl rfl ?_
  refine gX1_11 (pc' := 4) h dX1_lossIn_1 rfl hF.l0 hF.o rfl ?_
  refine r_iload_n (pc' := 5) h dX1_lossIn_4 rfl rfl ?_
  refine r_callSN2 (pc' := 8) (M := mX4_valueAt) h hm dX1_lossIn_5 rfl lX1_80 vX4_valueAt (Nat.le_of_ble_eq_true rfl) (rrb rfl) (kX4_valueAt hF.l1 hF.r1 (by decide) ?_)
  show AW X G _ _ _ _ _ _ _ _
  refine r_aload_n (pc' := 9) h dX1_lossIn_8 rfl rfl ?_
  refine gX1_15 (pc' := 12) h dX1_lossIn_9 rfl hF.l0 hF.o rfl ?_
  refine r_iload_n (pc' := 13) h dX1_lossIn_12 rfl rfl ?_
  refine r_callSN2 (pc' := 16) (M := mX4_valueAt) h hm dX1_lossIn_13 rfl lX1_80 vX4_valueAt (Nat.le_of_ble_eq_true rfl) (rrb rfl) (kX4_valueAt hF.l2 hF.r2 (by decide) ?_)
  show AW X G _ _ _ _ _ _ _ _
  refine r_callS2 (pc' := 19) (M := mX1_placeOf) h hm dX1_lossIn_16 rfl lX1_76 vX1_placeOf (Nat.le_of_ble_eq_true rfl) (rrb rfl) (kX1_placeOf ?_)
  show AW X G _ _ _ _ _ _ _ _
  refine r_istoren (j := 3) (pc' := 20) h rfl dX1_lossIn_19 rfl (by decide) rfl ?_
  refine r_iload_n (pc' := 21) h dX1_lossIn_20 rfl rfl ?_
  refine r_callS1 (pc' := 24) (M := mX1_stepTowards) h hm dX1_lossIn_21 rfl lX1_96 vX1_stepTowards (Nat.le_of_ble_eq_true rfl) (rrb rfl) (kX1_stepTowards ?_)
  show AW X G _ _ _ _ _ _ _ _
  refine r_istore (pc' := 26) h dX1_lossIn_24 rfl (by decide) rfl ?_
  refine r_aload_n (pc' := 27) h dX1_lossIn_26 rfl rfl ?_
  refine gX1_30 (pc' := 30) h dX1_lossIn_27 rfl hF.l0 hF.o rfl ?_
  refine r_iload_n (pc' := 31) h dX1_lossIn_30 rfl rfl ?_
  refine r_iload (pc' := 33) h dX1_lossIn_31 rfl rfl ?_
  refine r_iadd (pc' := 34) h dX1_lossIn_33 rfl ?_
  refine r_callSN2 (pc' := 37) (M := mX4_valueAt) h hm dX1_lossIn_34 rfl lX1_80 vX4_valueAt (Nat.le_of_ble_eq_true rfl) (rrb rfl) (kX4_valueAt hF.l7 hF.r7 (by decide) ?_)
  show AW X G _ _ _ _ _ _ _ _
  refine r_iconst (pc' := 38) (v := 1) h dX1_lossIn_37 rfl (by decide) ?_
  refine r_isub (pc' := 39) h dX1_lossIn_38 rfl ?_
  refine r_istore (pc' := 41) h dX1_lossIn_39 rfl (by decide) rfl ?_
  refine r_aload_n (pc' := 42) h dX1_lossIn_41 rfl rfl ?_
  refine gX1_30 (pc' := 45) h dX1_lossIn_42 rfl hF.l0 hF.o rfl ?_
  refine r_iload_n (pc' := 46) h dX1_lossIn_45 rfl rfl ?_
  refine r_iconst (pc' := 47) (v := 2) h dX1_lossIn_46 rfl (by decide) ?_
  refine r_iload (pc' := 49) h dX1_lossIn_47 rfl rfl ?_
  refine r_imul (pc' := 50) h dX1_lossIn_49 rfl ?_
  refine r_iadd (pc' := 51) h dX1_lossIn_50 rfl ?_
  refine r_callSN2 (pc' := 54) (M := mX4_valueAt) h hm dX1_lossIn_51 rfl lX1_80 vX4_valueAt (Nat.le_of_ble_eq_true rfl) (rrb rfl) (kX4_valueAt hF.l7 hF.r7 (by decide) ?_)
  show AW X G _ _ _ _ _ _ _ _
  refine r_iconst (pc' := 55) (v := 1) h dX1_lossIn_54 rfl (by decide) ?_
  refine r_isub (pc' := 56) h dX1_lossIn_55 rfl ?_
  refine r_istore (pc' := 58) h dX1_lossIn_56 rfl (by decide) rfl ?_
  refine r_aload_n (pc' := 59) h dX1_lossIn_58 rfl rfl ?_
  refine r_iload (pc' := 61) h dX1_lossIn_59 rfl rfl ?_
  refine r_iconst (pc' := 62) (v := 1) h dX1_lossIn_61 rfl (by decide) ?_
  refine r_callV2 (pc' := 65) (M := mX1_isInState) h hm dX1_lossIn_62 rfl lX1_84 vX1_isInState rfl hF.l0 hF.o (Nat.le_of_ble_eq_true rfl) (rrb rfl) (kX1_isInState hF ?_)
  show AW X G _ _ _ _ _ _ _ _
  refine r_aload_n (pc' := 66) h dX1_lossIn_65 rfl rfl ?_
  refine r_iload (pc' := 68) h dX1_lossIn_66 rfl rfl ?_
  refine r_iconst (pc' := 69) (v := 1) h dX1_lossIn_68 rfl (by decide) ?_
  refine r_callV2 (pc' := 72) (M := mX1_isInState) h hm dX1_lossIn_69 rfl lX1_84 vX1_isInState rfl hF.l0 hF.o (Nat.le_of_ble_eq_true rfl) (rrb rfl) (kX1_isInState hF ?_)
  show AW X G _ _ _ _ _ _ _ _
  refine r_callS2 (pc' := 75) (M := mX1_wakeOf) h hm dX1_lossIn_72 rfl lX1_100 vX1_wakeOf (Nat.le_of_ble_eq_true rfl) (rrb rfl) (kX1_wakeOf ?_)
  show AW X G _ _ _ _ _ _ _ _
  refine r_ireturn h hm dX1_lossIn_75 (Nat.le_of_ble_eq_true rfl) (Nat.le_of_ble_eq_true rfl) ?_
  exact kI hk (by first | rfl | simp [los])
theorem kX1_powerAfter {l : Launch} {G : GX} {N : Nat} {S : Nat → va_E} {K : RK} {b : Nat} {F : FM} (hF : isF G N S b F) {t sp lo : Int32} (hk : K (.inl (some (.int (pwr F t sp lo)))) S) : RetK l G N mX1_powerAfter (1, 22, 0, 0) [.ref (ad G b), .int t, .int sp, .int lo] S K := by
  refine ret_enter (by decide +kernel) (Nat.le_of_ble_eq_true rfl) (fun X hX h hm => ?_)
  subst hX
  replace h : OK X G N cX1_powerAfter RX1 5 (1, 22, 0, 0) := h
  replace hm : OKm X G N K (some .int) (1, 22, 0, 0) := hm
  show AW X G 5 N 0 [(0, _), (1, _), (2, _), (3, _)] [] S 0 0
  refine r_iload_n (pc' := 1) h dX1_powerAfter_0 rfl rfl ?_
  refine r_callSN1 (pc' := 4) (M := mX4_factorOf) h hm dX1_powerAfter_1 rfl lX1_104 vX4_factorOf (Nat.le_of_ble_eq_true rfl) (rrb rfl) (kX4_factorOf ?_)
  show AW X G _ _ _ _ _ _ _ _
  refine r_iload_n (pc' := 5) h dX1_powerAfter_4 rfl rfl ?_
  refine r_isub (pc' := 6) h dX1_powerAfter_5 rfl ?_
  refine r_istore (pc' := 8) h dX1_powerAfter_6 rfl (by decide) rfl ?_
  refine r_iload (pc' := 10) h dX1_powerAfter_8 rfl rfl ?_
  refine r_if_le (tgt := 36) (pc' := 13) h dX1_powerAfter_10 (by decide) rfl (fun c0 => ?_) (fun c0 => ?_)
  · refine r_iconst (pc' := 37) (v := 0) h dX1_powerAfter_36 rfl (by decide) ?_
    refine r_ireturn h hm dX1_powerAfter_37 (Nat.le_of_ble_eq_true rfl) (Nat.le_of_ble_eq_true rfl) ?_
    exact kI hk (by first | rfl | simp [pwr, c0])
  · refine r_aload_n (pc' := 14) h dX1_powerAfter_13 rfl rfl ?_
    refine r_iload_n (pc' := 15) h dX1_powerAfter_14 rfl rfl ?_
    refine r_iconst (pc' := 16) (v := 1) h dX1_powerAfter_15 rfl (by decide) ?_
    refine r_callV2 (pc' := 19) (M := mX1_isInState) h hm dX1_powerAfter_16 rfl lX1_84 vX1_isInState rfl hF.l0 hF.o (Nat.le_of_ble_eq_true rfl) (rrb rfl) (kX1_isInState hF ?_)
    show AW X G _ _ _ _ _ _ _ _
    refine r_if_eqb (tgt := 36) (pc' := 22) h dX1_powerAfter_19 (by decide) rfl (fun c1 => ?_) (fun c1 => ?_)
    · refine r_iconst (pc' := 37) (v := 0) h dX1_powerAfter_36 rfl (by decide) ?_
      refine r_ireturn h hm dX1_powerAfter_37 (Nat.le_of_ble_eq_true rfl) (Nat.le_of_ble_eq_true rfl) ?_
      exact kI hk (by first | rfl | simp [pwr, c0, c1])
    · refine r_aload_n (pc' := 23) h dX1_powerAfter_22 rfl rfl ?_
      refine gX1_18 (pc' := 26) h dX1_powerAfter_23 rfl hF.l0 hF.o rfl ?_
      refine r_iload_n (pc' := 27) h dX1_powerAfter_26 rfl rfl ?_
      refine r_callSN2 (pc' := 30) (M := mX4_valueAt) h hm dX1_powerAfter_27 rfl lX1_80 vX4_valueAt (Nat.le_of_ble_eq_true rfl) (rrb rfl) (kX4_valueAt hF.l3 hF.r3 (by decide) ?_)
      show AW X G _ _ _ _ _ _ _ _
      refine r_iload (pc' := 32) h dX1_powerAfter_30 rfl rfl ?_
      refine r_imul (pc' := 33) h dX1_powerAfter_32 rfl ?_
      refine r_goto (tgt := 37) h dX1_powerAfter_33 (by decide) ?_
      refine r_ireturn h hm dX1_powerAfter_37 (Nat.le_of_ble_eq_true rfl) (Nat.le_of_ble_eq_true rfl) ?_
      exact kI hk (by first | rfl | simp [pwr, c0, c1])
theorem kX1_limited {l : Launch} {G : GX} {N : Nat} {S : Nat → va_E} {K : RK} {b : Nat} {F : FM} (hF : isF G N S b F) {t p : Int32} (hk : K (.inl (some (.int (lim F t p)))) S) : RetK l G N mX1_limited (1, 21, 0, 0) [.ref (ad G b), .int t, .int p] S K := by
  refine ret_enter (by decide +kernel) (Nat.le_of_ble_eq_true rfl) (fun X hX h hm => ?_)
  subst hX
  replace h : OK X G N cX1_limited RX1 4 (1, 21, 0, 0) := h
  replace hm : OKm X G N K (some .int) (1, 21, 0, 0) := hm
  show AW X G 4 N 0 [(0, _), (1, _), (2, _)] [] S 0 0
  refine r_aload_n (pc' := 1) h dX1_limited_0 rfl rfl ?_
  refine gX1_24 (pc' := 4) h dX1_limited_1 rfl hF.l0 hF.o rfl ?_
  refine r_iload_n (pc' := 5) h dX1_limited_4 rfl rfl ?_
  refine r_callSN2 (pc' := 8) (M := mX4_valueAt) h hm dX1_limited_5 rfl lX1_80 vX4_valueAt (Nat.le_of_ble_eq_true rfl) (rrb rfl) (kX4_valueAt hF.l5 hF.r5 (by decide) ?_)
  show AW X G _ _ _ _ _ _ _ _
  refine r_istoren (j := 3) (pc' := 9) h rfl dX1_limited_8 rfl (by decide) rfl ?_
  refine r_iload_n (pc' := 10) h dX1_limited_9 rfl rfl ?_
  refine r_iconst (pc' := 11) (v := -1) h dX1_limited_10 rfl (by decide) ?_
  refine r_icmp_ne (tgt := 18) (pc' := 14) h dX1_limited_11 (by decide) rfl (fun c0 => ?_) (fun c0 => ?_)
  · refine r_iload_n (pc' := 19) h dX1_limited_18 rfl rfl ?_
    refine r_iload_n (pc' := 20) h dX1_limited_19 rfl rfl ?_
    refine r_min (pc' := 23) (own := RX1) h dX1_limited_20 rfl lX1_107 (rrm rfl) ?_
    refine r_ireturn h hm dX1_limited_23 (Nat.le_of_ble_eq_true rfl) (Nat.le_of_ble_eq_true rfl) ?_
    exact kI hk (by first | rfl | simp [lim, c0])
  · refine r_iload_n (pc' := 15) h dX1_limited_14 rfl rfl ?_
    refine r_goto (tgt := 23) h dX1_limited_15 (by decide) ?_
    refine r_ireturn h hm dX1_limited_23 (Nat.le_of_ble_eq_true rfl) (Nat.le_of_ble_eq_true rfl) ?_
    exact kI hk (by first | rfl | simp [lim, c0])
theorem kX1_outputIn {l : Launch} {G : GX} {N : Nat} {S : Nat → va_E} {K : RK} {b : Nat} {F : FM} (hF : isF G N S b F) {t d sp : Int32} (hk : K (.inl (some (.int (outp F t d sp)))) S) : RetK l G N mX1_outputIn (2, 48, 0, 0) [.ref (ad G b), .int t, .int d, .int sp] S K := by
  refine ret_enter (by decide +kernel) (Nat.le_of_ble_eq_true rfl) (fun X hX h hm => ?_)
  subst hX
  replace h : OK X G N cX1_outputIn RX1 4 (2, 48, 0, 0) := h
  replace hm : OKm X G N K (some .int) (2, 48, 0, 0) := hm
  show AW X G 4 N 0 [(0, _), (1, _), (2, _), (3, _)] [] S 0 0
  refine r_aload_n (pc' := 1) h dX1_outputIn_0 rfl rfl ?_
  refine r_iload_n (pc' := 2) h dX1_outputIn_1 rfl rfl ?_
  refine r_aload_n (pc' := 3) h dX1_outputIn_2 rfl rfl ?_
  refine r_iload_n (pc' := 4) h dX1_outputIn_3 rfl rfl ?_
  refine r_iload_n (pc' := 5) h dX1_outputIn_4 rfl rfl ?_
  refine r_aload_n (pc' := 6) h dX1_outputIn_5 rfl rfl ?_
  refine r_iload_n (pc' := 7) h dX1_outputIn_6 rfl rfl ?_
  refine r_iload_n (pc' := 8) h dX1_outputIn_7 rfl rfl ?_
  refine r_callV2 (pc' := 11) (M := mX1_lossIn) h hm dX1_outputIn_8 rfl lX1_112 vX1_lossIn rfl hF.l0 hF.o (Nat.le_of_ble_eq_true rfl) (rrb rfl) (kX1_lossIn hF ?_)
  show AW X G _ _ _ _ _ _ _ _
  refine r_callV3 (pc' := 14) (M := mX1_powerAfter) h hm dX1_outputIn_11 rfl lX1_116 vX1_powerAfter rfl hF.l0 hF.o (Nat.le_of_ble_eq_true rfl) (rrb rfl) (kX1_powerAfter hF ?_)
  show AW X G _ _ _ _ _ _ _ _
  refine r_callV2 (pc' := 17) (M := mX1_limited) h hm dX1_outputIn_14 rfl lX1_120 vX1_limited rfl hF.l0 hF.o (Nat.le_of_ble_eq_true rfl) (rrb rfl) (kX1_limited hF ?_)
  show AW X G _ _ _ _ _ _ _ _
  refine r_ireturn h hm dX1_outputIn_17 (Nat.le_of_ble_eq_true rfl) (Nat.le_of_ble_eq_true rfl) ?_
  exact kI hk (by first | rfl | simp [outp])
theorem kX1_sumIn {l : Launch} {G : GX} {N : Nat} {S : Nat → va_E} {K : RK} {b : Nat} {F : FM} (hF : isF G N S b F) {d sp : Int32} (hw : wF F) (hk : K (.inl (some (.int (sumI F d sp (fN F))))) S) : RetK l G N mX1_sumIn (3, 71, 0, 0) [.ref (ad G b), .int d, .int sp] S K := by
  refine ret_enter (by decide +kernel) (Nat.le_of_ble_eq_true rfl) (fun X hX h hm => ?_)
  subst hX
  replace h : OK X G N cX1_sumIn RX1 5 (3, 71, 0, 0) := h
  replace hm : OKm X G N K (some .int) (3, 71, 0, 0) := hm
  show AW X G 5 N 0 [(0, _), (1, _), (2, _)] [] S 0 0
  refine r_iconst (pc' := 1) (v := 0) h dX1_sumIn_0 rfl (by decide) ?_
  refine r_istoren (j := 3) (pc' := 2) h rfl dX1_sumIn_1 rfl (by decide) rfl ?_
  refine r_iconst (pc' := 3) (v := 0) h dX1_sumIn_2 rfl (by decide) ?_
  refine r_istore (pc' := 5) h dX1_sumIn_3 rfl (by decide) rfl ?_
  have loop : ∀ (n j : Nat), j ≤ fN F → fN F - j < n → AW X G 5 N 5 [(0, .ref (ad G b)), (1, .int d), (2, .int sp), (3, .int (sumI F d sp j)), (4, .int (nI j))] [] S 0 0 := by
    intro n
    induction n with
    | zero => intro j h1 h2; exact absurd h2 (by omega)
    | succ n ih =>
      intro j h1 h2
      refine r_iload (pc' := 7) h dX1_sumIn_5 rfl rfl ?_
      refine r_aload_n (pc' := 8) h dX1_sumIn_7 rfl rfl ?_
      refine gX1_51 (pc' := 11) h dX1_sumIn_8 rfl hF.l0 hF.o rfl ?_
      refine r_icmp_ge (tgt := 31) (pc' := 14) h dX1_sumIn_11 (by decide) rfl (fun c0 => ?_) (fun c0 => ?_)
      · have ej := lp_ge (c := fN F) hw.1 (by have := hw.2; omega) h1 c0
        subst ej
        refine r_iload_n (pc' := 32) h dX1_sumIn_31 rfl rfl ?_
        refine r_ireturn h hm dX1_sumIn_32 (Nat.le_of_ble_eq_true rfl) (Nat.le_of_ble_eq_true rfl) ?_
        exact kI hk (by first | rfl | simp [sumI, c0])
      · have hj := lp_lt (c := fN F) hw.1 (by have := hw.2; omega) h1 c0
        refine r_iload_n (pc' := 15) h dX1_sumIn_14 rfl rfl ?_
        refine r_aload_n (pc' := 16) h dX1_sumIn_15 rfl rfl ?_
        refine r_iload (pc' := 18) h dX1_sumIn_16 rfl rfl ?_
        refine r_iload_n (pc' := 19) h dX1_sumIn_18 rfl rfl ?_
        refine r_iload_n (pc' := 20) h dX1_sumIn_19 rfl rfl ?_
        refine r_callV3 (pc' := 23) (M := mX1_outputIn) h hm dX1_sumIn_20 rfl lX1_123 vX1_outputIn rfl hF.l0 hF.o (Nat.le_of_ble_eq_true rfl) (rrb rfl) (kX1_outputIn hF ?_)
        show AW X G _ _ _ _ _ _ _ _
        refine r_iadd (pc' := 24) h dX1_sumIn_23 rfl ?_
        refine r_istoren (j := 3) (pc' := 25) h rfl dX1_sumIn_24 rfl (by decide) rfl ?_
        refine r_iinc (pc' := 28) (v := 1) h dX1_sumIn_25 rfl (by decide) (by decide) rfl rfl ?_
        refine r_goto (tgt := 5) h dX1_sumIn_28 (by decide) ?_
        exact aw_cast (by simp [sumI, nI_1, c0]) (ih (j + 1) (by omega) (by omega))
  exact loop (fN F + 1) 0 (Nat.zero_le _) (by omega)
