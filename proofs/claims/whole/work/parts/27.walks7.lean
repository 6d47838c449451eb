/-! THE WALKS: the reference's readers, undo, snapshot. -/
theorem kX5_thrown {l : Launch} {G : GX} {N : Nat} {S : Nat → va_E} {K : RK} {Q : MM} (hQ : isM G N S Q) (hk : K (.inl (some (.int (mI Q 0)))) S) : RetK l G N mX5_thrown (0, 0, 0, 0) [.ref (ad G 119)] S K := by
  refine ret_enter (by decide +kernel) (Nat.le_of_ble_eq_true rfl) (fun X hX h hm => ?_)
  subst hX
  replace h : OK X G N cX5_thrown RX5 1 (0, 0, 0, 0) := h
  replace hm : OKm X G N K (some .int) (0, 0, 0, 0) := hm
  show AW X G 1 N 0 [(0, _)] [] S 0 0
  refine r_aload_n (pc' := 1) h dX5_thrown_0 rfl rfl ?_
  refine gX5_27 (pc' := 4) h dX5_thrown_1 rfl hQ.l0 hQ.o rfl ?_
  refine r_ireturn h hm dX5_thrown_4 (Nat.le_of_ble_eq_true rfl) (Nat.le_of_ble_eq_true rfl) ?_
  exact hk
theorem kX5_turbineCount {l : Launch} {G : GX} {N : Nat} {S : Nat → va_E} {K : RK} {Q : MM} (hQ : isM G N S Q) (hk : ∀ S1, isM G N S1 (qR Q 0 (mM Q 0)).1 → GR S S1 → K (.inl (some (.int (qR Q 0 (mM Q 0)).2))) S1) : RetK l G N mX5_turbineCount (0, 0, 0, 0) [.ref (ad G 119)] S K := by
  refine ret_enter (by decide +kernel) (Nat.le_of_ble_eq_true rfl) (fun X hX h hm => ?_)
  subst hX
  replace h : OK X G N cX5_turbineCount RX5 1 (0, 0, 0, 0) := h
  replace hm : OKm X G N K (some .int) (0, 0, 0, 0) := hm
  show AW X G 1 N 0 [(0, _)] [] S 0 0
  refine r_aload_n (pc' := 1) h dX5_turbineCount_0 rfl rfl ?_
  refine r_iconst (pc' := 2) (v := 0) h dX5_turbineCount_1 rfl (by decide) ?_
  refine pX5_27 (pc' := 5) h dX5_turbineCount_2 rfl hQ.l0 hQ.o (Nat.le_of_ble_eq_true rfl) ?_
  refine wM0 hQ (fun S1 hQ1 hR1 => ?_)
  refine r_aload_n (pc' := 6) h dX5_turbineCount_5 rfl rfl ?_
  refine gX5_9 (pc' := 9) h dX5_turbineCount_6 rfl hQ1.l0 hQ1.o rfl ?_
  refine r_iconst (pc' := 10) (v := 0) h dX5_turbineCount_9 rfl (by decide) ?_
  refine r_ialdk (k0 := 0) (pc' := 11) h dX5_turbineCount_10 rfl hQ1.l1 hQ1.r1 (by unfold vp_in; decide) rfl ?_
  refine r_ireturn h hm dX5_turbineCount_11 (Nat.le_of_ble_eq_true rfl) (Nat.le_of_ble_eq_true rfl) ?_
  refine kM hk hQ1 hR1 ?_
  first | rfl | contradiction | (simp [qIf, qR, mM_sI, mI_sI, mI_sM, mM_sM, b2i]; done) | (simp [qIf, qR, mM_sI, mI_sI, mI_sM, mM_sM, b2i]; rfl) | (simp_all [qIf, qR, mM_sI, mI_sI, mI_sM, mM_sM, b2i]; done)
theorem kX5_windSpeed {l : Launch} {G : GX} {N : Nat} {S : Nat → va_E} {K : RK} {Q : MM} (hQ : isM G N S Q) (hk : ∀ S1, isM G N S1 (qR Q 0 (mM Q 2)).1 → GR S S1 → K (.inl (some (.int (qR Q 0 (mM Q 2)).2))) S1) : RetK l G N mX5_windSpeed (0, 0, 0, 0) [.ref (ad G 119)] S K := by
  refine ret_enter (by decide +kernel) (Nat.le_of_ble_eq_true rfl) (fun X hX h hm => ?_)
  subst hX
  replace h : OK X G N cX5_windSpeed RX5 1 (0, 0, 0, 0) := h
  replace hm : OKm X G N K (some .int) (0, 0, 0, 0) := hm
  show AW X G 1 N 0 [(0, _)] [] S 0 0
  refine r_aload_n (pc' := 1) h dX5_windSpeed_0 rfl rfl ?_
  refine r_iconst (pc' := 2) (v := 0) h dX5_windSpeed_1 rfl (by decide) ?_
  refine pX5_27 (pc' := 5) h dX5_windSpeed_2 rfl hQ.l0 hQ.o (Nat.le_of_ble_eq_true rfl) ?_
  refine wM0 hQ (fun S1 hQ1 hR1 => ?_)
  refine r_aload_n (pc' := 6) h dX5_windSpeed_5 rfl rfl ?_
  refine gX5_9 (pc' := 9) h dX5_windSpeed_6 rfl hQ1.l0 hQ1.o rfl ?_
  refine r_iconst (pc' := 10) (v := 2) h dX5_windSpeed_9 rfl (by decide) ?_
  refine r_ialdk (k0 := 2) (pc' := 11) h dX5_windSpeed_10 rfl hQ1.l1 hQ1.r1 (by unfold vp_in; decide) rfl ?_
  refine r_ireturn h hm dX5_windSpeed_11 (Nat.le_of_ble_eq_true rfl) (Nat.le_of_ble_eq_true rfl) ?_
  refine kM hk hQ1 hR1 ?_
  first | rfl | contradiction | (simp [qIf, qR, mM_sI, mI_sI, mI_sM, mM_sM, b2i]; done) | (simp [qIf, qR, mM_sI, mI_sI, mI_sM, mM_sM, b2i]; rfl) | (simp_all [qIf, qR, mM_sI, mI_sI, mI_sM, mM_sM, b2i]; done)
theorem kX5_gridLimit {l : Launch} {G : GX} {N : Nat} {S : Nat → va_E} {K : RK} {Q : MM} (hQ : isM G N S Q) (hk : ∀ S1, isM G N S1 (qR Q 0 (mM Q 3)).1 → GR S S1 → K (.inl (some (.int (qR Q 0 (mM Q 3)).2))) S1) : RetK l G N mX5_gridLimit (0, 0, 0, 0) [.ref (ad G 119)] S K := by
  refine ret_enter (by decide +kernel) (Nat.le_of_ble_eq_true rfl) (fun X hX h hm => ?_)
  subst hX
  replace h : OK X G N cX5_gridLimit RX5 1 (0, 0, 0, 0) := h
  replace hm : OKm X G N K (some .int) (0, 0, 0, 0) := hm
  show AW X G 1 N 0 [(0, _)] [] S 0 0
  refine r_aload_n (pc' := 1) h dX5_gridLimit_0 rfl rfl ?_
  refine r_iconst (pc' := 2) (v := 0) h dX5_gridLimit_1 rfl (by decide) ?_
  refine pX5_27 (pc' := 5) h dX5_gridLimit_2 rfl hQ.l0 hQ.o (Nat.le_of_ble_eq_true rfl) ?_
  refine wM0 hQ (fun S1 hQ1 hR1 => ?_)
  refine r_aload_n (pc' := 6) h dX5_gridLimit_5 rfl rfl ?_
  refine gX5_9 (pc' := 9) h dX5_gridLimit_6 rfl hQ1.l0 hQ1.o rfl ?_
  refine r_iconst (pc' := 10) (v := 3) h dX5_gridLimit_9 rfl (by decide) ?_
  refine r_ialdk (k0 := 3) (pc' := 11) h dX5_gridLimit_10 rfl hQ1.l1 hQ1.r1 (by unfold vp_in; decide) rfl ?_
  refine r_ireturn h hm dX5_gridLimit_11 (Nat.le_of_ble_eq_true rfl) (Nat.le_of_ble_eq_true rfl) ?_
  refine kM hk hQ1 hR1 ?_
  first | rfl | contradiction | (simp [qIf, qR, mM_sI, mI_sI, mI_sM, mM_sM, b2i]; done) | (simp [qIf, qR, mM_sI, mI_sI, mI_sM, mM_sM, b2i]; rfl) | (simp_all [qIf, qR, mM_sI, mI_sI, mI_sM, mM_sM, b2i]; done)
theorem kX5_time {l : Launch} {G : GX} {N : Nat} {S : Nat → va_E} {K : RK} {Q : MM} (hQ : isM G N S Q) (hk : ∀ S1, isM G N S1 (qR Q 0 (mM Q 4)).1 → GR S S1 → K (.inl (some (.int (qR Q 0 (mM Q 4)).2))) S1) : RetK l G N mX5_time (0, 0, 0, 0) [.ref (ad G 119)] S K := by
  refine ret_enter (by decide +kernel) (Nat.le_of_ble_eq_true rfl) (fun X hX h hm => ?_)
  subst hX
  replace h : OK X G N cX5_time RX5 1 (0, 0, 0, 0) := h
  replace hm : OKm X G N K (some .int) (0, 0, 0, 0) := hm
  show AW X G 1 N 0 [(0, _)] [] S 0 0
  refine r_aload_n (pc' := 1) h dX5_time_0 rfl rfl ?_
  refine r_iconst (pc' := 2) (v := 0) h dX5_time_1 rfl (by decide) ?_
  refine pX5_27 (pc' := 5) h dX5_time_2 rfl hQ.l0 hQ.o (Nat.le_of_ble_eq_true rfl) ?_
  refine wM0 hQ (fun S1 hQ1 hR1 => ?_)
  refine r_aload_n (pc' := 6) h dX5_time_5 rfl rfl ?_
  refine gX5_9 (pc' := 9) h dX5_time_6 rfl hQ1.l0 hQ1.o rfl ?_
  refine r_iconst (pc' := 10) (v := 4) h dX5_time_9 rfl (by decide) ?_
  refine r_ialdk (k0 := 4) (pc' := 11) h dX5_time_10 rfl hQ1.l1 hQ1.r1 (by unfold vp_in; decide) rfl ?_
  refine r_ireturn h hm dX5_time_11 (Nat.le_of_ble_eq_true rfl) (Nat.le_of_ble_eq_true rfl) ?_
  refine kM hk hQ1 hR1 ?_
  first | rfl | contradiction | (simp [qIf, qR, mM_sI, mI_sI, mI_sM, mM_sM, b2i]; done) | (simp [qIf, qR, mM_sI, mI_sI, mI_sM, mM_sM, b2i]; rfl) | (simp_all [qIf, qR, mM_sI, mI_sI, mI_sM, mM_sM, b2i]; done)
theorem kX5_powerFactor {l : Launch} {G : GX} {N : Nat} {S : Nat → va_E} {K : RK} {Q : MM} (hQ : isM G N S Q) (hk : ∀ S1, isM G N S1 (qR Q 0 (qFac (mM Q 2))).1 → GR S S1 → K (.inl (some (.int (qR Q 0 (qFac (mM Q 2))).2))) S1) : RetK l G N mX5_powerFactor (1, 20, 0, 0) [.ref (ad G 119)] S K := by
  refine ret_enter (by decide +kernel) (Nat.le_of_ble_eq_true rfl) (fun X hX h hm => ?_)
  subst hX
  replace h : OK X G N cX5_powerFactor RX5 1 (1, 20, 0, 0) := h
  replace hm : OKm X G N K (some .int) (1, 20, 0, 0) := hm
  show AW X G 1 N 0 [(0, _)] [] S 0 0
  refine r_aload_n (pc' := 1) h dX5_powerFactor_0 rfl rfl ?_
  refine r_iconst (pc' := 2) (v := 0) h dX5_powerFactor_1 rfl (by decide) ?_
  refine pX5_27 (pc' := 5) h dX5_powerFactor_2 rfl hQ.l0 hQ.o (Nat.le_of_ble_eq_true rfl) ?_
  refine wM0 hQ (fun S1 hQ1 hR1 => ?_)
  refine r_aload_n (pc' := 6) h dX5_powerFactor_5 rfl rfl ?_
  refine gX5_9 (pc' := 9) h dX5_powerFactor_6 rfl hQ1.l0 hQ1.o rfl ?_
  refine r_iconst (pc' := 10) (v := 2) h dX5_powerFactor_9 rfl (by decide) ?_
  refine r_ialdk (k0 := 2) (pc' := 11) h dX5_powerFactor_10 rfl hQ1.l1 hQ1.r1 (by unfold vp_in; decide) rfl ?_
  refine r_callS1 (pc' := 14) (M := mX5_factorOf) h hm dX5_powerFactor_11 rfl lX5_67 vX5_factorOf (Nat.le_of_ble_eq_true rfl) (rrb rfl) (kX5_factorOf ?_)
  show AW X G _ _ _ _ _ _ _ _
  refine r_ireturn h hm dX5_powerFactor_14 (Nat.le_of_ble_eq_true rfl) (Nat.le_of_ble_eq_true rfl) ?_
  refine kM hk hQ1 hR1 ?_
  first | rfl | contradiction | (simp [qIf, qR, mM_sI, mI_sI, mI_sM, mM_sM, b2i]; done) | (simp [qIf, qR, mM_sI, mI_sI, mI_sM, mM_sM, b2i]; rfl) | (simp_all [qIf, qR, mM_sI, mI_sI, mI_sM, mM_sM, b2i]; done)
theorem kX5_freeCrews {l : Launch} {G : GX} {N : Nat} {S : Nat → va_E} {K : RK} {Q : MM} (hQ : isM G N S Q) (hw : wM (mM Q)) (hk : ∀ S1, isM G N S1 (qR Q 0 (2 - qIS (mM Q) 2 (qN (mM Q)))).1 → GR S S1 → K (.inl (some (.int (qR Q 0 (2 - qIS (mM Q) 2 (qN (mM Q)))).2))) S1) : RetK l G N mX5_freeCrews (2, 45, 0, 0) [.ref (ad G 119)] S K := by
  refine ret_enter (by decide +kernel) (Nat.le_of_ble_eq_true rfl) (fun X hX h hm => ?_)
  subst hX
  replace h : OK X G N cX5_freeCrews RX5 1 (2, 45, 0, 0) := h
  replace hm : OKm X G N K (some .int) (2, 45, 0, 0) := hm
  show AW X G 1 N 0 [(0, _)] [] S 0 0
  refine r_aload_n (pc' := 1) h dX5_freeCrews_0 rfl rfl ?_
  refine r_iconst (pc' := 2) (v := 0) h dX5_freeCrews_1 rfl (by decide) ?_
  refine pX5_27 (pc' := 5) h dX5_freeCrews_2 rfl hQ.l0 hQ.o (Nat.le_of_ble_eq_true rfl) ?_
  refine wM0 hQ (fun S1 hQ1 hR1 => ?_)
  refine r_iconst (pc' := 6) (v := 2) h dX5_freeCrews_5 rfl (by decide) ?_
  refine r_aload_n (pc' := 7) h dX5_freeCrews_6 rfl rfl ?_
  refine r_iconst (pc' := 8) (v := 2) h dX5_freeCrews_7 rfl (by decide) ?_
  refine r_callV1 (pc' := 11) (M := mX5_inState) h hm dX5_freeCrews_8 rfl lX5_107 vX5_inState rfl hQ1.l0 hQ1.o (Nat.le_of_ble_eq_true rfl) (rrb rfl) (kX5_inState hQ1 hw ?_)
  show AW X G _ _ _ _ _ _ _ _
  refine r_isub (pc' := 12) h dX5_freeCrews_11 rfl ?_
  refine r_ireturn h hm dX5_freeCrews_12 (Nat.le_of_ble_eq_true rfl) (Nat.le_of_ble_eq_true rfl) ?_
  refine kM hk hQ1 hR1 ?_
  first | rfl | contradiction | (simp [qIf, qR, mM_sI, mI_sI, mI_sM, mM_sM, b2i]; done) | (simp [qIf, qR, mM_sI, mI_sI, mI_sM, mM_sM, b2i]; rfl) | (simp_all [qIf, qR, mM_sI, mI_sI, mI_sM, mM_sM, b2i]; done)
theorem kX5_totalOutput {l : Launch} {G : GX} {N : Nat} {S : Nat → va_E} {K : RK} {Q : MM} (hQ : isM G N S Q) (hw : wM (mM Q)) (hk : ∀ S1, isM G N S1 (qR Q 0 (qTo (mM Q) (qN (mM Q)))).1 → GR S S1 → K (.inl (some (.int (qR Q 0 (qTo (mM Q) (qN (mM Q)))).2))) S1) : RetK l G N mX5_totalOutput (7, 158, 0, 0) [.ref (ad G 119)] S K := by
  refine ret_enter (by decide +kernel) (Nat.le_of_ble_eq_true rfl) (fun X hX h hm => ?_)
  subst hX
  replace h : OK X G N cX5_totalOutput RX5 1 (7, 158, 0, 0) := h
  replace hm : OKm X G N K (some .int) (7, 158, 0, 0) := hm
  show AW X G 1 N 0 [(0, _)] [] S 0 0
  refine r_aload_n (pc' := 1) h dX5_totalOutput_0 rfl rfl ?_
  refine r_iconst (pc' := 2) (v := 0) h dX5_totalOutput_1 rfl (by decide) ?_
  refine pX5_27 (pc' := 5) h dX5_totalOutput_2 rfl hQ.l0 hQ.o (Nat.le_of_ble_eq_true rfl) ?_
  refine wM0 hQ (fun S1 hQ1 hR1 => ?_)
  refine r_aload_n (pc' := 6) h dX5_totalOutput_5 rfl rfl ?_
  refine r_callV0 (pc' := 9) (M := mX5_total) h hm dX5_totalOutput_6 rfl lX5_129 vX5_total rfl hQ1.l0 hQ1.o (Nat.le_of_ble_eq_true rfl) (rrb rfl) (kX5_total hQ1 hw ?_)
  show AW X G _ _ _ _ _ _ _ _
  refine r_ireturn h hm dX5_totalOutput_9 (Nat.le_of_ble_eq_true rfl) (Nat.le_of_ble_eq_true rfl) ?_
  refine kM hk hQ1 hR1 ?_
  first | rfl | contradiction | (simp [qIf, qR, mM_sI, mI_sI, mI_sM, mM_sM, b2i]; done) | (simp [qIf, qR, mM_sI, mI_sI, mI_sM, mM_sM, b2i]; rfl) | (simp_all [qIf, qR, mM_sI, mI_sI, mI_sM, mM_sM, b2i]; done)
theorem kX5_totalOutputByLines {l : Launch} {G : GX} {N : Nat} {S : Nat → va_E} {K : RK} {Q : MM} (hQ : isM G N S Q) (hw : wM (mM Q)) (hk : ∀ S1, isM G N S1 (qR Q 0 (qTo (mM Q) (qN (mM Q)))).1 → GR S S1 → K (.inl (some (.int (qR Q 0 (qTo (mM Q) (qN (mM Q)))).2))) S1) : RetK l G N mX5_totalOutputByLines (8, 178, 0, 0) [.ref (ad G 119)] S K := by
  refine ret_enter (by decide +kernel) (Nat.le_of_ble_eq_true rfl) (fun X hX h hm => ?_)
  subst hX
  replace h : OK X G N cX5_totalOutputByLines RX5 1 (8, 178, 0, 0) := h
  replace hm : OKm X G N K (some .int) (8, 178, 0, 0) := hm
  show AW X G 1 N 0 [(0, _)] [] S 0 0
  refine r_aload_n (pc' := 1) h dX5_totalOutputByLines_0 rfl rfl ?_
  refine r_callV0 (pc' := 4) (M := mX5_totalOutput) h hm dX5_totalOutputByLines_1 rfl lX5_178 vX5_totalOutput rfl hQ.l0 hQ.o (Nat.le_of_ble_eq_true rfl) (rrb rfl) (kX5_totalOutput hQ hw (fun S1 hQ1 hR1 => ?_))
  show AW X G _ _ _ _ _ _ _ _
  refine r_ireturn h hm dX5_totalOutputByLines_4 (Nat.le_of_ble_eq_true rfl) (Nat.le_of_ble_eq_true rfl) ?_
  exact hk _ hQ1 hR1
theorem kX5_windDirection {l : Launch} {G : GX} {N : Nat} {S : Nat → va_E} {K : RK} {Q : MM} (hQ : isM G N S Q) (hk : ∀ S1, isM G N S1 (qR Q 0 (qSgn (mM Q 1))).1 → GR S S1 → K (.inl (some (.int (qR Q 0 (qSgn (mM Q 1))).2))) S1) : RetK l G N mX5_windDirection (1, 20, 0, 0) [.ref (ad G 119)] S K := by
  refine ret_enter (by decide +kernel) (Nat.le_of_ble_eq_true rfl) (fun X hX h hm => ?_)
  subst hX
  replace h : OK X G N cX5_windDirection RX5 1 (1, 20, 0, 0) := h
  replace hm : OKm X G N K (some .char) (1, 20, 0, 0) := hm
  show AW X G 1 N 0 [(0, _)] [] S 0 0
  refine r_aload_n (pc' := 1) h dX5_windDirection_0 rfl rfl ?_
  refine r_iconst (pc' := 2) (v := 0) h dX5_windDirection_1 rfl (by decide) ?_
  refine pX5_27 (pc' := 5) h dX5_windDirection_2 rfl hQ.l0 hQ.o (Nat.le_of_ble_eq_true rfl) ?_
  refine wM0 hQ (fun S1 hQ1 hR1 => ?_)
  refine r_aload_n (pc' := 6) h dX5_windDirection_5 rfl rfl ?_
  refine gX5_9 (pc' := 9) h dX5_windDirection_6 rfl hQ1.l0 hQ1.o rfl ?_
  refine r_iconst (pc' := 10) (v := 1) h dX5_windDirection_9 rfl (by decide) ?_
  refine r_ialdk (k0 := 1) (pc' := 11) h dX5_windDirection_10 rfl hQ1.l1 hQ1.r1 (by unfold vp_in; decide) rfl ?_
  refine r_callS1 (pc' := 14) (M := mX5_signOf) h hm dX5_windDirection_11 rfl lX5_174 vX5_signOf (Nat.le_of_ble_eq_true rfl) (rrb rfl) (kX5_signOf ?_)
  show AW X G _ _ _ _ _ _ _ _
  refine r_zreturn h hm dX5_windDirection_14 (Nat.le_of_ble_eq_true rfl) (Nat.le_of_ble_eq_true rfl) (nar_qSgn _) ?_
  refine kM hk hQ1 hR1 ?_
  first | rfl | contradiction | (simp [qIf, qR, mM_sI, mI_sI, mI_sM, mM_sM, b2i]; done) | (simp [qIf, qR, mM_sI, mI_sI, mI_sM, mM_sM, b2i]; rfl) | (simp_all [qIf, qR, mM_sI, mI_sI, mI_sM, mM_sM, b2i]; done)
theorem kX5_isConsistent {l : Launch} {G : GX} {N : Nat} {S : Nat → va_E} {K : RK} {Q : MM} (hQ : isM G N S Q) (hk : ∀ S1, isM G N S1 (qR Q 0 1).1 → GR S S1 → K (.inl (some (.int (qR Q 0 1).2))) S1) : RetK l G N mX5_isConsistent (0, 0, 0, 0) [.ref (ad G 119)] S K := by
  refine ret_enter (by decide +kernel) (Nat.le_of_ble_eq_true rfl) (fun X hX h hm => ?_)
  subst hX
  replace h : OK X G N cX5_isConsistent RX5 1 (0, 0, 0, 0) := h
  replace hm : OKm X G N K (some .boolean) (0, 0, 0, 0) := hm
  show AW X G 1 N 0 [(0, _)] [] S 0 0
  refine r_aload_n (pc' := 1) h dX5_isConsistent_0 rfl rfl ?_
  refine r_iconst (pc' := 2) (v := 0) h dX5_isConsistent_1 rfl (by decide) ?_
  refine pX5_27 (pc' := 5) h dX5_isConsistent_2 rfl hQ.l0 hQ.o (Nat.le_of_ble_eq_true rfl) ?_
  refine wM0 hQ (fun S1 hQ1 hR1 => ?_)
  refine r_iconst (pc' := 6) (v := 1) h dX5_isConsistent_5 rfl (by decide) ?_
  refine r_zreturn h hm dX5_isConsistent_6 (Nat.le_of_ble_eq_true rfl) (Nat.le_of_ble_eq_true rfl) (by first | rfl | exact nar_b _) ?_
  refine kM hk hQ1 hR1 ?_
  first | rfl | contradiction | (simp [qIf, qR, mM_sI, mI_sI, mI_sM, mM_sM, b2i]; done) | (simp [qIf, qR, mM_sI, mI_sI, mI_sM, mM_sM, b2i]; rfl) | (simp_all [qIf, qR, mM_sI, mI_sI, mI_sM, mM_sM, b2i]; done)
theorem kX5_turbineAt {l : Launch} {G : GX} {N : Nat} {S : Nat → va_E} {K : RK} {Q : MM} (hQ : isM G N S Q) (hw : wM (mM Q)) {x y : Int32} (hk : ∀ S1, isM G N S1 (qTA Q x y).1 → GR S S1 → K (.inl (some (.int (qTA Q x y).2))) S1) : RetK l G N mX5_turbineAt (2, 45, 0, 0) [.ref (ad G 119), .int x, .int y] S K := by
  refine ret_enter (by decide +kernel) (Nat.le_of_ble_eq_true rfl) (fun X hX h hm => ?_)
  subst hX
  replace h : OK X G N cX5_turbineAt RX5 4 (2, 45, 0, 0) := h
  replace hm : OKm X G N K (some .int) (2, 45, 0, 0) := hm
  show AW X G 4 N 0 [(0, _), (1, _), (2, _)] [] S 0 0
  refine r_aload_n (pc' := 1) h dX5_turbineAt_0 rfl rfl ?_
  refine r_iload_n (pc' := 2) h dX5_turbineAt_1 rfl rfl ?_
  refine r_iload_n (pc' := 3) h dX5_turbineAt_2 rfl rfl ?_
  refine r_callV2 (pc' := 6) (M := mX5_inCell) h hm dX5_turbineAt_3 rfl lX5_61 vX5_inCell rfl hQ.l0 hQ.o (Nat.le_of_ble_eq_true rfl) (rrb rfl) (kX5_inCell hQ hw ?_)
  show AW X G _ _ _ _ _ _ _ _
  refine r_istoren (j := 3) (pc' := 7) h rfl dX5_turbineAt_6 rfl (by decide) rfl ?_
  refine r_aload_n (pc' := 8) h dX5_turbineAt_7 rfl rfl ?_
  refine r_iload_n (pc' := 9) h dX5_turbineAt_8 rfl rfl ?_
  refine r_iload_n (pc' := 10) h dX5_turbineAt_9 rfl rfl ?_
  refine r_callS2 (pc' := 13) (M := mX5_isCell) h hm dX5_turbineAt_10 rfl lX5_80 vX5_isCell (Nat.le_of_ble_eq_true rfl) (rrb rfl) (kX5_isCell ?_)
  show AW X G _ _ _ _ _ _ _ _
  refine r_if_neb (tgt := 20) (pc' := 16) h dX5_turbineAt_13 (by decide) rfl (fun c0 => ?_) (fun c0 => ?_)
  · try simp only [mM_sI, mM_sM] at c0
    refine r_iload_n (pc' := 21) h dX5_turbineAt_20 rfl rfl ?_
    refine r_if_ge (tgt := 28) (pc' := 24) h dX5_turbineAt_21 (by decide) rfl (fun c1 => ?_) (fun c1 => ?_)
    · try simp only [mM_sI, mM_sM] at c1
      have hge : ¬ qIn (mM Q) x y < 0 := Int32.not_lt.mpr c1
      refine r_iconst (pc' := 29) (v := 0) h dX5_turbineAt_28 rfl (by decide) ?_
      refine pX5_27 (pc' := 32) h dX5_turbineAt_29 rfl hQ.l0 hQ.o (Nat.le_of_ble_eq_true rfl) ?_
      refine wM0 hQ (fun S1 hQ1 hR1 => ?_)
      refine r_aload_n (pc' := 33) h dX5_turbineAt_32 rfl rfl ?_
      refine gX5_27 (pc' := 36) h dX5_turbineAt_33 rfl hQ1.l0 hQ1.o rfl ?_
      show AW X G _ _ _ _ (.int 0 :: _) _ _ _
      refine r_if_ne (tgt := 43) (pc' := 39) h dX5_turbineAt_36 (by decide) rfl (fun c => absurd c (by decide)) (fun _ => ?_)
      refine r_iload_n (pc' := 40) h dX5_turbineAt_39 rfl rfl ?_
      refine r_goto (tgt := 44) h dX5_turbineAt_40 (by decide) ?_
      refine r_ireturn h hm dX5_turbineAt_44 (Nat.le_of_ble_eq_true rfl) (Nat.le_of_ble_eq_true rfl) ?_
      refine kM hk hQ1 hR1 ?_
      first | (rw [qTA, if_neg (by rw [c0]; decide)]; rfl) | (rw [qTA, if_pos c0, if_neg hge]; rfl) | (rw [qTA, if_pos c0, if_pos hge]; rfl)
    · try simp only [mM_sI, mM_sM] at c1
      have hge : qIn (mM Q) x y < 0 := Int32.not_le.mp c1
      refine r_iconst (pc' := 25) (v := 2) h dX5_turbineAt_24 rfl (by decide) ?_
      refine r_goto (tgt := 29) h dX5_turbineAt_25 (by decide) ?_
      refine pX5_27 (pc' := 32) h dX5_turbineAt_29 rfl hQ.l0 hQ.o (Nat.le_of_ble_eq_true rfl) ?_
      refine wM0 hQ (fun S2 hQ2 hR2 => ?_)
      refine r_aload_n (pc' := 33) h dX5_turbineAt_32 rfl rfl ?_
      refine gX5_27 (pc' := 36) h dX5_turbineAt_33 rfl hQ2.l0 hQ2.o rfl ?_
      show AW X G _ _ _ _ (.int 2 :: _) _ _ _
      refine r_if_ne (tgt := 43) (pc' := 39) h dX5_turbineAt_36 (by decide) rfl (fun _ => ?_) (fun c => absurd c (by decide))
      refine r_iconst (pc' := 44) (v := 0) h dX5_turbineAt_43 rfl (by decide) ?_
      refine r_ireturn h hm dX5_turbineAt_44 (Nat.le_of_ble_eq_true rfl) (Nat.le_of_ble_eq_true rfl) ?_
      refine kM hk hQ2 hR2 ?_
      first | (rw [qTA, if_neg (by rw [c0]; decide)]; rfl) | (rw [qTA, if_pos c0, if_neg hge]; rfl) | (rw [qTA, if_pos c0, if_pos hge]; rfl)
  · try simp only [mM_sI, mM_sM] at c0
    refine r_iconst (pc' := 17) (v := 1) h dX5_turbineAt_16 rfl (by decide) ?_
    refine r_goto (tgt := 29) h dX5_turbineAt_17 (by decide) ?_
    refine pX5_27 (pc' := 32) h dX5_turbineAt_29 rfl hQ.l0 hQ.o (Nat.le_of_ble_eq_true rfl) ?_
    refine wM0 hQ (fun S3 hQ3 hR3 => ?_)
    refine r_aload_n (pc' := 33) h dX5_turbineAt_32 rfl rfl ?_
    refine gX5_27 (pc' := 36) h dX5_turbineAt_33 rfl hQ3.l0 hQ3.o rfl ?_
    show AW X G _ _ _ _ (.int 1 :: _) _ _ _
    refine r_if_ne (tgt := 43) (pc' := 39) h dX5_turbineAt_36 (by decide) rfl (fun _ => ?_) (fun c => absurd c (by decide))
    refine r_iconst (pc' := 44) (v := 0) h dX5_turbineAt_43 rfl (by decide) ?_
    refine r_ireturn h hm dX5_turbineAt_44 (Nat.le_of_ble_eq_true rfl) (Nat.le_of_ble_eq_true rfl) ?_
    refine kM hk hQ3 hR3 ?_
    first | (rw [qTA, if_neg (by rw [c0]; decide)]; rfl) | (rw [qTA, if_pos c0, if_neg hge]; rfl) | (rw [qTA, if_pos c0, if_pos hge]; rfl)
theorem kX5_ofTurbine {l : Launch} {G : GX} {N : Nat} {S : Nat → va_E} {K : RK} {Q : MM} (hQ : isM G N S Q) (hw : wM (mM Q)) {x w : Int32} {k : Nat} (hk0 : w = nI k) (hk6 : k < 6) (hk : ∀ S1, isM G N S1 (qIf Q (qIT (mM Q) x) (if qIT (mM Q) x then qT (mM Q) x w else 0)).1 → GR S S1 → K (.inl (some (.int (qIf Q (qIT (mM Q) x) (if qIT (mM Q) x then qT (mM Q) x w else 0)).2))) S1) : RetK l G N mX5_ofTurbine (2, 43, 0, 0) [.ref (ad G 119), .int x, .int w] S K := by
  refine ret_enter (by decide +kernel) (Nat.le_of_ble_eq_true rfl) (fun X hX h hm => ?_)
  subst hX
  replace h : OK X G N cX5_ofTurbine RX5 3 (2, 43, 0, 0) := h
  replace hm : OKm X G N K (some .int) (2, 43, 0, 0) := hm
  show AW X G 3 N 0 [(0, _), (1, _), (2, _)] [] S 0 0
  refine r_aload_n (pc' := 1) h dX5_ofTurbine_0 rfl rfl ?_
  refine r_aload_n (pc' := 2) h dX5_ofTurbine_1 rfl rfl ?_
  refine r_iload_n (pc' := 3) h dX5_ofTurbine_2 rfl rfl ?_
  refine r_callV1 (pc' := 6) (M := mX5_isTurbine) h hm dX5_ofTurbine_3 rfl lX5_103 vX5_isTurbine rfl hQ.l0 hQ.o (Nat.le_of_ble_eq_true rfl) (rrb rfl) (kX5_isTurbine hQ ?_)
  show AW X G _ _ _ _ _ _ _ _
  refine r_callV1 (pc' := 9) (M := mX5_isFine) h hm dX5_ofTurbine_6 rfl lX5_49 vX5_isFine rfl hQ.l0 hQ.o (Nat.le_of_ble_eq_true rfl) (rrb rfl) (kX5_isFine hQ (fun S1 hQ1 hR1 => ?_))
  show AW X G _ _ _ _ _ _ _ _
  refine r_if_eqb (tgt := 21) (pc' := 12) h dX5_ofTurbine_9 (by decide) rfl (fun c0 => ?_) (fun c0 => ?_)
  · try simp only [mM_sI, mM_sM] at c0
    refine r_iconst (pc' := 22) (v := 0) h dX5_ofTurbine_21 rfl (by decide) ?_
    refine r_ireturn h hm dX5_ofTurbine_22 (Nat.le_of_ble_eq_true rfl) (Nat.le_of_ble_eq_true rfl) ?_
    refine kM hk hQ1 hR1 ?_
    first | rfl | contradiction | (simp [qIf, qR, mM_sI, mI_sI, mI_sM, mM_sM, b2i, c0]; done) | (simp [qIf, qR, mM_sI, mI_sI, mI_sM, mM_sM, b2i, c0]; rfl) | (simp_all [qIf, qR, mM_sI, mI_sI, mI_sM, mM_sM, b2i, c0]; done)
  · try simp only [mM_sI, mM_sM] at c0
    have ht := qIT_in hw c0
    refine r_aload_n (pc' := 13) h dX5_ofTurbine_12 rfl rfl ?_
    refine r_iload_n (pc' := 14) h dX5_ofTurbine_13 rfl rfl ?_
    refine r_iload_n (pc' := 15) h dX5_ofTurbine_14 rfl rfl ?_
    refine r_callV2 (pc' := 18) (M := mX5_t) h hm dX5_ofTurbine_15 rfl lX5_57 vX5_t rfl hQ1.l0 hQ1.o (Nat.le_of_ble_eq_true rfl) (rrb rfl) (kX5_t hQ1 (by rw [hk0]; exact ix_T ht hk6) ?_)
    show AW X G _ _ _ _ _ _ _ _
    refine r_goto (tgt := 22) h dX5_ofTurbine_18 (by decide) ?_
    refine r_ireturn h hm dX5_ofTurbine_22 (Nat.le_of_ble_eq_true rfl) (Nat.le_of_ble_eq_true rfl) ?_
    refine kM hk hQ1 hR1 ?_
    first | rfl | contradiction | (simp [qIf, qR, mM_sI, mI_sI, mI_sM, mM_sM, b2i, c0]; done) | (simp [qIf, qR, mM_sI, mI_sI, mI_sM, mM_sM, b2i, c0]; rfl) | (simp_all [qIf, qR, mM_sI, mI_sI, mI_sM, mM_sM, b2i, c0]; done)
theorem kX5_rowOf {l : Launch} {G : GX} {N : Nat} {S : Nat → va_E} {K : RK} {Q : MM} (hQ : isM G N S Q) (hw : wM (mM Q)) {x : Int32} (hk : ∀ S1, isM G N S1 (qIf Q (qIT (mM Q) x) (if qIT (mM Q) x then qT (mM Q) x 0 else 0)).1 → GR S S1 → K (.inl (some (.int (qIf Q (qIT (mM Q) x) (if qIT (mM Q) x then qT (mM Q) x 0 else 0)).2))) S1) : RetK l G N mX5_rowOf (3, 65, 0, 0) [.ref (ad G 119), .int x] S K := by
  refine ret_enter (by decide +kernel) (Nat.le_of_ble_eq_true rfl) (fun X hX h hm => ?_)
  subst hX
  replace h : OK X G N cX5_rowOf RX5 2 (3, 65, 0, 0) := h
  replace hm : OKm X G N K (some .int) (3, 65, 0, 0) := hm
  show AW X G 2 N 0 [(0, _), (1, _)] [] S 0 0
  refine r_aload_n (pc' := 1) h dX5_rowOf_0 rfl rfl ?_
  refine r_iload_n (pc' := 2) h dX5_rowOf_1 rfl rfl ?_
  refine r_iconst (pc' := 3) (v := 0) h dX5_rowOf_2 rfl (by decide) ?_
  refine r_callV2 (pc' := 6) (M := mX5_ofTurbine) h hm dX5_rowOf_3 rfl lX5_171 vX5_ofTurbine rfl hQ.l0 hQ.o (Nat.le_of_ble_eq_true rfl) (rrb rfl) (kX5_ofTurbine (w := 0) (k := 0) hQ hw rfl (by decide) (fun S1 hQ1 hR1 => ?_))
  show AW X G _ _ _ _ _ _ _ _
  refine r_ireturn h hm dX5_rowOf_6 (Nat.le_of_ble_eq_true rfl) (Nat.le_of_ble_eq_true rfl) ?_
  exact hk _ hQ1 hR1
theorem kX5_columnOf {l : Launch} {G : GX} {N : Nat} {S : Nat → va_E} {K : RK} {Q : MM} (hQ : isM G N S Q) (hw : wM (mM Q)) {x : Int32} (hk : ∀ S1, isM G N S1 (qIf Q (qIT (mM Q) x) (if qIT (mM Q) x then qT (mM Q) x 1 else 0)).1 → GR S S1 → K (.inl (some (.int (qIf Q (qIT (mM Q) x) (if qIT (mM Q) x then qT (mM Q) x 1 else 0)).2))) S1) : RetK l G N mX5_columnOf (3, 65, 0, 0) [.ref (ad G 119), .int x] S K := by
  refine ret_enter (by decide +kernel) (Nat.le_of_ble_eq_true rfl) (fun X hX h hm => ?_)
  subst hX
  replace h : OK X G N cX5_columnOf RX5 2 (3, 65, 0, 0) := h
  replace hm : OKm X G N K (some .int) (3, 65, 0, 0) := hm
  show AW X G 2 N 0 [(0, _), (1, _)] [] S 0 0
  refine r_aload_n (pc' := 1) h dX5_columnOf_0 rfl rfl ?_
  refine r_iload_n (pc' := 2) h dX5_columnOf_1 rfl rfl ?_
  refine r_iconst (pc' := 3) (v := 1) h dX5_columnOf_2 rfl (by decide) ?_
  refine r_callV2 (pc' := 6) (M := mX5_ofTurbine) h hm dX5_columnOf_3 rfl lX5_171 vX5_ofTurbine rfl hQ.l0 hQ.o (Nat.le_of_ble_eq_true rfl) (rrb rfl) (kX5_ofTurbine (w := 1) (k := 1) hQ hw rfl (by decide) (fun S1 hQ1 hR1 => ?_))
  show AW X G _ _ _ _ _ _ _ _
  refine r_ireturn h hm dX5_columnOf_6 (Nat.le_of_ble_eq_true rfl) (Nat.le_of_ble_eq_true rfl) ?_
  exact hk _ hQ1 hR1
theorem kX5_ratedPower {l : Launch} {G : GX} {N : Nat} {S : Nat → va_E} {K : RK} {Q : MM} (hQ : isM G N S Q) (hw : wM (mM Q)) {x : Int32} (hk : ∀ S1, isM G N S1 (qIf Q (qIT (mM Q) x) (if qIT (mM Q) x then qT (mM Q) x 2 else 0)).1 → GR S S1 → K (.inl (some (.int (qIf Q (qIT (mM Q) x) (if qIT (mM Q) x then qT (mM Q) x 2 else 0)).2))) S1) : RetK l G N mX5_ratedPower (3, 65, 0, 0) [.ref (ad G 119), .int x] S K := by
  refine ret_enter (by decide +kernel) (Nat.le_of_ble_eq_true rfl) (fun X hX h hm => ?_)
  subst hX
  replace h : OK X G N cX5_ratedPower RX5 2 (3, 65, 0, 0) := h
  replace hm : OKm X G N K (some .int) (3, 65, 0, 0) := hm
  show AW X G 2 N 0 [(0, _), (1, _)] [] S 0 0
  refine r_aload_n (pc' := 1) h dX5_ratedPower_0 rfl rfl ?_
  refine r_iload_n (pc' := 2) h dX5_ratedPower_1 rfl rfl ?_
  refine r_iconst (pc' := 3) (v := 2) h dX5_ratedPower_2 rfl (by decide) ?_
  refine r_callV2 (pc' := 6) (M := mX5_ofTurbine) h hm dX5_ratedPower_3 rfl lX5_171 vX5_ofTurbine rfl hQ.l0 hQ.o (Nat.le_of_ble_eq_true rfl) (rrb rfl) (kX5_ofTurbine (w := 2) (k := 2) hQ hw rfl (by decide) (fun S1 hQ1 hR1 => ?_))
  show AW X G _ _ _ _ _ _ _ _
  refine r_ireturn h hm dX5_ratedPower_6 (Nat.le_of_ble_eq_true rfl) (Nat.le_of_ble_eq_true rfl) ?_
  exact hk _ hQ1 hR1
theorem kX5_isRunning {l : Launch} {G : GX} {N : Nat} {S : Nat → va_E} {K : RK} {Q : MM} (hQ : isM G N S Q) (hw : wM (mM Q)) {x : Int32} (hk : ∀ S1, isM G N S1 (qIf Q (qIT (mM Q) x) (if qIT (mM Q) x then (if qT (mM Q) x 3 = 0 then 1 else 0) else 0)).1 → GR S S1 → K (.inl (some (.int (qIf Q (qIT (mM Q) x) (if qIT (mM Q) x then (if qT (mM Q) x 3 = 0 then 1 else 0) else 0)).2))) S1) : RetK l G N mX5_isRunning (2, 43, 0, 0) [.ref (ad G 119), .int x] S K := by
  refine ret_enter (by decide +kernel) (Nat.le_of_ble_eq_true rfl) (fun X hX h hm => ?_)
  subst hX
  replace h : OK X G N cX5_isRunning RX5 2 (2, 43, 0, 0) := h
  replace hm : OKm X G N K (some .boolean) (2, 43, 0, 0) := hm
  show AW X G 2 N 0 [(0, _), (1, _)] [] S 0 0
  refine r_aload_n (pc' := 1) h dX5_isRunning_0 rfl rfl ?_
  refine r_aload_n (pc' := 2) h dX5_isRunning_1 rfl rfl ?_
  refine r_iload_n (pc' := 3) h dX5_isRunning_2 rfl rfl ?_
  refine r_callV1 (pc' := 6) (M := mX5_isTurbine) h hm dX5_isRunning_3 rfl lX5_103 vX5_isTurbine rfl hQ.l0 hQ.o (Nat.le_of_ble_eq_true rfl) (rrb rfl) (kX5_isTurbine hQ ?_)
  show AW X G _ _ _ _ _ _ _ _
  refine r_callV1 (pc' := 9) (M := mX5_isFine) h hm dX5_isRunning_6 rfl lX5_49 vX5_isFine rfl hQ.l0 hQ.o (Nat.le_of_ble_eq_true rfl) (rrb rfl) (kX5_isFine hQ (fun S1 hQ1 hR1 => ?_))
  show AW X G _ _ _ _ _ _ _ _
  refine r_if_eqb (tgt := 25) (pc' := 12) h dX5_isRunning_9 (by decide) rfl (fun c0 => ?_) (fun c0 => ?_)
  · try simp only [mM_sI, mM_sM] at c0
    refine r_iconst (pc' := 26) (v := 0) h dX5_isRunning_25 rfl (by decide) ?_
    refine r_zreturn h hm dX5_isRunning_26 (Nat.le_of_ble_eq_true rfl) (Nat.le_of_ble_eq_true rfl) (by first | rfl | exact nar_b _) ?_
    refine kM hk hQ1 hR1 ?_
    cases e9 : qIT (mM Q) x <;> first | rfl | contradiction | (simp [qIf, qR, mM_sI, mI_sI, mI_sM, mM_sM, b2i, c0, e9]; done) | (simp_all [qIf, qR, mM_sI, mI_sI, mI_sM, mM_sM, b2i, c0]; done)
  · try simp only [mM_sI, mM_sM] at c0
    have ht := qIT_in hw c0
    refine r_aload_n (pc' := 13) h dX5_isRunning_12 rfl rfl ?_
    refine r_iload_n (pc' := 14) h dX5_isRunning_13 rfl rfl ?_
    refine r_iconst (pc' := 15) (v := 3) h dX5_isRunning_14 rfl (by decide) ?_
    refine r_callV2 (pc' := 18) (M := mX5_t) h hm dX5_isRunning_15 rfl lX5_57 vX5_t rfl hQ1.l0 hQ1.o (Nat.le_of_ble_eq_true rfl) (rrb rfl) (kX5_t hQ1 (ix_T (w := 3) (ht) (by decide)) ?_)
    show AW X G _ _ _ _ _ _ _ _
    refine r_if_ne (tgt := 25) (pc' := 21) h dX5_isRunning_18 (by decide) rfl (fun c1 => ?_) (fun c1 => ?_)
    · try simp only [mM_sI, mM_sM] at c1
      refine r_iconst (pc' := 26) (v := 0) h dX5_isRunning_25 rfl (by decide) ?_
      refine r_zreturn h hm dX5_isRunning_26 (Nat.le_of_ble_eq_true rfl) (Nat.le_of_ble_eq_true rfl) (by first | rfl | exact nar_b _) ?_
      refine kM hk hQ1 hR1 ?_
      cases e9 : qIT (mM Q) x <;> first | rfl | contradiction | (simp [qIf, qR, mM_sI, mI_sI, mI_sM, mM_sM, b2i, c0, c1, e9]; done) | (simp_all [qIf, qR, mM_sI, mI_sI, mI_sM, mM_sM, b2i, c0, c1]; done)
    · try simp only [mM_sI, mM_sM] at c1
      refine r_iconst (pc' := 22) (v := 1) h dX5_isRunning_21 rfl (by decide) ?_
      refine r_goto (tgt := 26) h dX5_isRunning_22 (by decide) ?_
      refine r_zreturn h hm dX5_isRunning_26 (Nat.le_of_ble_eq_true rfl) (Nat.le_of_ble_eq_true rfl) (by first | rfl | exact nar_b _) ?_
      refine kM hk hQ1 hR1 ?_
      cases e9 : qIT (mM Q) x <;> first | rfl | contradiction | (simp [qIf, qR, mM_sI, mI_sI, mI_sM, mM_sM, b2i, c0, c1, e9]; done) | (simp_all [qIf, qR, mM_sI, mI_sI, mI_sM, mM_sM, b2i, c0, c1]; done)
theorem kX5_isFailed {l : Launch} {G : GX} {N : Nat} {S : Nat → va_E} {K : RK} {Q : MM} (hQ : isM G N S Q) (hw : wM (mM Q)) {x : Int32} (hk : ∀ S1, isM G N S1 (qIf Q (qIT (mM Q) x) (if qIT (mM Q) x then (if qT (mM Q) x 3 = 1 then 1 else 0) else 0)).1 → GR S S1 → K (.inl (some (.int (qIf Q (qIT (mM Q) x) (if qIT (mM Q) x then (if qT (mM Q) x 3 = 1 then 1 else 0) else 0)).2))) S1) : RetK l G N mX5_isFailed (3, 65, 0, 0) [.ref (ad G 119), .int x] S K := by
  refine ret_enter (by decide +kernel) (Nat.le_of_ble_eq_true rfl) (fun X hX h hm => ?_)
  subst hX
  replace h : OK X G N cX5_isFailed RX5 2 (3, 65, 0, 0) := h
  replace hm : OKm X G N K (some .boolean) (3, 65, 0, 0) := hm
  show AW X G 2 N 0 [(0, _), (1, _)] [] S 0 0
  refine r_aload_n (pc' := 1) h dX5_isFailed_0 rfl rfl ?_
  refine r_iload_n (pc' := 2) h dX5_isFailed_1 rfl rfl ?_
  refine r_iconst (pc' := 3) (v := 3) h dX5_isFailed_2 rfl (by decide) ?_
  refine r_callV2 (pc' := 6) (M := mX5_ofTurbine) h hm dX5_isFailed_3 rfl lX5_171 vX5_ofTurbine rfl hQ.l0 hQ.o (Nat.le_of_ble_eq_true rfl) (rrb rfl) (kX5_ofTurbine (w := 3) (k := 3) hQ hw rfl (by decide) (fun S1 hQ1 hR1 => ?_))
  show AW X G _ _ _ _ _ _ _ _
  refine r_iconst (pc' := 7) (v := 1) h dX5_isFailed_6 rfl (by decide) ?_
  refine r_icmp_ne (tgt := 14) (pc' := 10) h dX5_isFailed_7 (by decide) rfl (fun c0 => ?_) (fun c0 => ?_)
  · try simp only [mM_sI, mM_sM] at c0
    refine r_iconst (pc' := 15) (v := 0) h dX5_isFailed_14 rfl (by decide) ?_
    refine r_zreturn h hm dX5_isFailed_15 (Nat.le_of_ble_eq_true rfl) (Nat.le_of_ble_eq_true rfl) (by first | rfl | exact nar_b _) ?_
    refine kM hk hQ1 hR1 ?_
    cases e9 : qIT (mM Q) x <;> first | rfl | contradiction | (simp [qIf, qR, mM_sI, mI_sI, mI_sM, mM_sM, b2i, c0, e9]; done) | (simp_all [qIf, qR, mM_sI, mI_sI, mI_sM, mM_sM, b2i, c0]; done)
  · try simp only [mM_sI, mM_sM] at c0
    refine r_iconst (pc' := 11) (v := 1) h dX5_isFailed_10 rfl (by decide) ?_
    refine r_goto (tgt := 15) h dX5_isFailed_11 (by decide) ?_
    refine r_zreturn h hm dX5_isFailed_15 (Nat.le_of_ble_eq_true rfl) (Nat.le_of_ble_eq_true rfl) (by first | rfl | exact nar_b _) ?_
    refine kM hk hQ1 hR1 ?_
    cases e9 : qIT (mM Q) x <;> first | rfl | contradiction | (simp [qIf, qR, mM_sI, mI_sI, mI_sM, mM_sM, b2i, c0, e9]; done) | (simp_all [qIf, qR, mM_sI, mI_sI, mI_sM, mM_sM, b2i, c0]; done)
theorem kX5_isInService {l : Launch} {G : GX} {N : Nat} {S : Nat → va_E} {K : RK} {Q : MM} (hQ : isM G N S Q) (hw : wM (mM Q)) {x : Int32} (hk : ∀ S1, isM G N S1 (qIf Q (qIT (mM Q) x) (if qIT (mM Q) x then (if qT (mM Q) x 3 = 2 then 1 else 0) else 0)).1 → GR S S1 → K (.inl (some (.int (qIf Q (qIT (mM Q) x) (if qIT (mM Q) x then (if qT (mM Q) x 3 = 2 then 1 else 0) else 0)).2))) S1) : RetK l G N mX5_isInService (3, 65, 0, 0) [.ref (ad G 119), .int x] S K := by
  refine ret_enter (by decide +kernel) (Nat.le_of_ble_eq_true rfl) (fun X hX h hm => ?_)
  subst hX
  replace h : OK X G N cX5_isInService RX5 2 (3, 65, 0, 0) := h
  replace hm : OKm X G N K (some .boolean) (3, 65, 0, 0) := hm
  show AW X G 2 N 0 [(0, _), (1, _)] [] S 0 0
  refine r_aload_n (pc' := 1) h dX5_isInService_0 rfl rfl ?_
  refine r_iload_n (pc' := 2) h dX5_isInService_1 rfl rfl ?_
  refine r_iconst (pc' := 3) (v := 3) h dX5_isInService_2 rfl (by decide) ?_
  refine r_callV2 (pc' := 6) (M := mX5_ofTurbine) h hm dX5_isInService_3 rfl lX5_171 vX5_ofTurbine rfl hQ.l0 hQ.o (Nat.le_of_ble_eq_true rfl) (rrb rfl) (kX5_ofTurbine (w := 3) (k := 3) hQ hw rfl (by decide) (fun S1 hQ1 hR1 => ?_))
  show AW X G _ _ _ _ _ _ _ _
  refine r_iconst (pc' := 7) (v := 2) h dX5_isInService_6 rfl (by decide) ?_
  refine r_icmp_ne (tgt := 14) (pc' := 10) h dX5_isInService_7 (by decide) rfl (fun c0 => ?_) (fun c0 => ?_)
  · try simp only [mM_sI, mM_sM] at c0
    refine r_iconst (pc' := 15) (v := 0) h dX5_isInService_14 rfl (by decide) ?_
    refine r_zreturn h hm dX5_isInService_15 (Nat.le_of_ble_eq_true rfl) (Nat.le_of_ble_eq_true rfl) (by first | rfl | exact nar_b _) ?_
    refine kM hk hQ1 hR1 ?_
    cases e9 : qIT (mM Q) x <;> first | rfl | contradiction | (simp [qIf, qR, mM_sI, mI_sI, mI_sM, mM_sM, b2i, c0, e9]; done) | (simp_all [qIf, qR, mM_sI, mI_sI, mI_sM, mM_sM, b2i, c0]; done)
  · try simp only [mM_sI, mM_sM] at c0
    refine r_iconst (pc' := 11) (v := 1) h dX5_isInService_10 rfl (by decide) ?_
    refine r_goto (tgt := 15) h dX5_isInService_11 (by decide) ?_
    refine r_zreturn h hm dX5_isInService_15 (Nat.le_of_ble_eq_true rfl) (Nat.le_of_ble_eq_true rfl) (by first | rfl | exact nar_b _) ?_
    refine kM hk hQ1 hR1 ?_
    cases e9 : qIT (mM Q) x <;> first | rfl | contradiction | (simp [qIf, qR, mM_sI, mI_sI, mI_sM, mM_sM, b2i, c0, e9]; done) | (simp_all [qIf, qR, mM_sI, mI_sI, mI_sM, mM_sM, b2i, c0]; done)
theorem kX5_wakeLoss {l : Launch} {G : GX} {N : Nat} {S : Nat → va_E} {K : RK} {Q : MM} (hQ : isM G N S Q) (hw : wM (mM Q)) {x : Int32} (hk : ∀ S1, isM G N S1 (qIf Q (qIT (mM Q) x) (if qIT (mM Q) x then qLo (mM Q) x else 0)).1 → GR S S1 → K (.inl (some (.int (qIf Q (qIT (mM Q) x) (if qIT (mM Q) x then qLo (mM Q) x else 0)).2))) S1) : RetK l G N mX5_wakeLoss (4, 91, 0, 0) [.ref (ad G 119), .int x] S K := by
  refine ret_enter (by decide +kernel) (Nat.le_of_ble_eq_true rfl) (fun X hX h hm => ?_)
  subst hX
  replace h : OK X G N cX5_wakeLoss RX5 2 (4, 91, 0, 0) := h
  replace hm : OKm X G N K (some .int) (4, 91, 0, 0) := hm
  show AW X G 2 N 0 [(0, _), (1, _)] [] S 0 0
  refine r_aload_n (pc' := 1) h dX5_wakeLoss_0 rfl rfl ?_
  refine r_aload_n (pc' := 2) h dX5_wakeLoss_1 rfl rfl ?_
  refine r_iload_n (pc' := 3) h dX5_wakeLoss_2 rfl rfl ?_
  refine r_callV1 (pc' := 6) (M := mX5_isTurbine) h hm dX5_wakeLoss_3 rfl lX5_103 vX5_isTurbine rfl hQ.l0 hQ.o (Nat.le_of_ble_eq_true rfl) (rrb rfl) (kX5_isTurbine hQ ?_)
  show AW X G _ _ _ _ _ _ _ _
  refine r_callV1 (pc' := 9) (M := mX5_isFine) h hm dX5_wakeLoss_6 rfl lX5_49 vX5_isFine rfl hQ.l0 hQ.o (Nat.le_of_ble_eq_true rfl) (rrb rfl) (kX5_isFine hQ (fun S1 hQ1 hR1 => ?_))
  show AW X G _ _ _ _ _ _ _ _
  refine r_if_eqb (tgt := 20) (pc' := 12) h dX5_wakeLoss_9 (by decide) rfl (fun c0 => ?_) (fun c0 => ?_)
  · try simp only [mM_sI, mM_sM] at c0
    refine r_iconst (pc' := 21) (v := 0) h dX5_wakeLoss_20 rfl (by decide) ?_
    refine r_ireturn h hm dX5_wakeLoss_21 (Nat.le_of_ble_eq_true rfl) (Nat.le_of_ble_eq_true rfl) ?_
    refine kM hk hQ1 hR1 ?_
    first | rfl | contradiction | (simp [qIf, qR, mM_sI, mI_sI, mI_sM, mM_sM, b2i, c0]; done) | (simp [qIf, qR, mM_sI, mI_sI, mI_sM, mM_sM, b2i, c0]; rfl) | (simp_all [qIf, qR, mM_sI, mI_sI, mI_sM, mM_sM, b2i, c0]; done)
  · try simp only [mM_sI, mM_sM] at c0
    have ht := qIT_in hw c0
    refine r_aload_n (pc' := 13) h dX5_wakeLoss_12 rfl rfl ?_
    refine r_iload_n (pc' := 14) h dX5_wakeLoss_13 rfl rfl ?_
    refine r_callV1 (pc' := 17) (M := mX5_lossOf) h hm dX5_wakeLoss_14 rfl lX5_71 vX5_lossOf rfl hQ1.l0 hQ1.o (Nat.le_of_ble_eq_true rfl) (rrb rfl) (kX5_lossOf hQ1 hw (ht) ?_)
    show AW X G _ _ _ _ _ _ _ _
    refine r_goto (tgt := 21) h dX5_wakeLoss_17 (by decide) ?_
    refine r_ireturn h hm dX5_wakeLoss_21 (Nat.le_of_ble_eq_true rfl) (Nat.le_of_ble_eq_true rfl) ?_
    refine kM hk hQ1 hR1 ?_
    first | rfl | contradiction | (simp [qIf, qR, mM_sI, mI_sI, mI_sM, mM_sM, b2i, c0]; done) | (simp [qIf, qR, mM_sI, mI_sI, mI_sM, mM_sM, b2i, c0]; rfl) | (simp_all [qIf, qR, mM_sI, mI_sI, mI_sM, mM_sM, b2i, c0]; done)
theorem kX5_availablePower {l : Launch} {G : GX} {N : Nat} {S : Nat → va_E} {K : RK} {Q : MM} (hQ : isM G N S Q) (hw : wM (mM Q)) {x : Int32} (hk : ∀ S1, isM G N S1 (qIf Q (qIT (mM Q) x) (if qIT (mM Q) x then qAv (mM Q) x else 0)).1 → GR S S1 → K (.inl (some (.int (qIf Q (qIT (mM Q) x) (if qIT (mM Q) x then qAv (mM Q) x else 0)).2))) S1) : RetK l G N mX5_availablePower (5, 113, 0, 0) [.ref (ad G 119), .int x] S K := by
  refine ret_enter (by decide +kernel) (Nat.le_of_ble_eq_true rfl) (fun X hX h hm => ?_)
  subst hX
  replace h : OK X G N cX5_availablePower RX5 2 (5, 113, 0, 0) := h
  replace hm : OKm X G N K (some .int) (5, 113, 0, 0) := hm
  show AW X G 2 N 0 [(0, _), (1, _)] [] S 0 0
  refine r_aload_n (pc' := 1) h dX5_availablePower_0 rfl rfl ?_
  refine r_aload_n (pc' := 2) h dX5_availablePower_1 rfl rfl ?_
  refine r_iload_n (pc' := 3) h dX5_availablePower_2 rfl rfl ?_
  refine r_callV1 (pc' := 6) (M := mX5_isTurbine) h hm dX5_availablePower_3 rfl lX5_103 vX5_isTurbine rfl hQ.l0 hQ.o (Nat.le_of_ble_eq_true rfl) (rrb rfl) (kX5_isTurbine hQ ?_)
  show AW X G _ _ _ _ _ _ _ _
  refine r_callV1 (pc' := 9) (M := mX5_isFine) h hm dX5_availablePower_6 rfl lX5_49 vX5_isFine rfl hQ.l0 hQ.o (Nat.le_of_ble_eq_true rfl) (rrb rfl) (kX5_isFine hQ (fun S1 hQ1 hR1 => ?_))
  show AW X G _ _ _ _ _ _ _ _
  refine r_if_eqb (tgt := 20) (pc' := 12) h dX5_availablePower_9 (by decide) rfl (fun c0 => ?_) (fun c0 => ?_)
  · try simp only [mM_sI, mM_sM] at c0
    refine r_iconst (pc' := 21) (v := 0) h dX5_availablePower_20 rfl (by decide) ?_
    refine r_ireturn h hm dX5_availablePower_21 (Nat.le_of_ble_eq_true rfl) (Nat.le_of_ble_eq_true rfl) ?_
    refine kM hk hQ1 hR1 ?_
    first | rfl | contradiction | (simp [qIf, qR, mM_sI, mI_sI, mI_sM, mM_sM, b2i, c0]; done) | (simp [qIf, qR, mM_sI, mI_sI, mI_sM, mM_sM, b2i, c0]; rfl) | (simp_all [qIf, qR, mM_sI, mI_sI, mI_sM, mM_sM, b2i, c0]; done)
  · try simp only [mM_sI, mM_sM] at c0
    have ht := qIT_in hw c0
    refine r_aload_n (pc' := 13) h dX5_availablePower_12 rfl rfl ?_
    refine r_iload_n (pc' := 14) h dX5_availablePower_13 rfl rfl ?_
    refine r_callV1 (pc' := 17) (M := mX5_available) h hm dX5_availablePower_14 rfl lX5_74 vX5_available rfl hQ1.l0 hQ1.o (Nat.le_of_ble_eq_true rfl) (rrb rfl) (kX5_available hQ1 hw (ht) ?_)
    show AW X G _ _ _ _ _ _ _ _
    refine r_goto (tgt := 21) h dX5_availablePower_17 (by decide) ?_
    refine r_ireturn h hm dX5_availablePower_21 (Nat.le_of_ble_eq_true rfl) (Nat.le_of_ble_eq_true rfl) ?_
    refine kM hk hQ1 hR1 ?_
    first | rfl | contradiction | (simp [qIf, qR, mM_sI, mI_sI, mI_sM, mM_sM, b2i, c0]; done) | (simp [qIf, qR, mM_sI, mI_sI, mI_sM, mM_sM, b2i, c0]; rfl) | (simp_all [qIf, qR, mM_sI, mI_sI, mI_sM, mM_sM, b2i, c0]; done)
theorem kX5_outputOf {l : Launch} {G : GX} {N : Nat} {S : Nat → va_E} {K : RK} {Q : MM} (hQ : isM G N S Q) (hw : wM (mM Q)) {x : Int32} (hk : ∀ S1, isM G N S1 (qIf Q (qIT (mM Q) x) (if qIT (mM Q) x then qOu (mM Q) x else 0)).1 → GR S S1 → K (.inl (some (.int (qIf Q (qIT (mM Q) x) (if qIT (mM Q) x then qOu (mM Q) x else 0)).2))) S1) : RetK l G N mX5_outputOf (6, 136, 0, 0) [.ref (ad G 119), .int x] S K := by
  refine ret_enter (by decide +kernel) (Nat.le_of_ble_eq_true rfl) (fun X hX h hm => ?_)
  subst hX
  replace h : OK X G N cX5_outputOf RX5 2 (6, 136, 0, 0) := h
  replace hm : OKm X G N K (some .int) (6, 136, 0, 0) := hm
  show AW X G 2 N 0 [(0, _), (1, _)] [] S 0 0
  refine r_aload_n (pc' := 1) h dX5_outputOf_0 rfl rfl ?_
  refine r_aload_n (pc' := 2) h dX5_outputOf_1 rfl rfl ?_
  refine r_iload_n (pc' := 3) h dX5_outputOf_2 rfl rfl ?_
  refine r_callV1 (pc' := 6) (M := mX5_isTurbine) h hm dX5_outputOf_3 rfl lX5_103 vX5_isTurbine rfl hQ.l0 hQ.o (Nat.le_of_ble_eq_true rfl) (rrb rfl) (kX5_isTurbine hQ ?_)
  show AW X G _ _ _ _ _ _ _ _
  refine r_callV1 (pc' := 9) (M := mX5_isFine) h hm dX5_outputOf_6 rfl lX5_49 vX5_isFine rfl hQ.l0 hQ.o (Nat.le_of_ble_eq_true rfl) (rrb rfl) (kX5_isFine hQ (fun S1 hQ1 hR1 => ?_))
  show AW X G _ _ _ _ _ _ _ _
  refine r_if_eqb (tgt := 20) (pc' := 12) h dX5_outputOf_9 (by decide) rfl (fun c0 => ?_) (fun c0 => ?_)
  · try simp only [mM_sI, mM_sM] at c0
    refine r_iconst (pc' := 21) (v := 0) h dX5_outputOf_20 rfl (by decide) ?_
    refine r_ireturn h hm dX5_outputOf_21 (Nat.le_of_ble_eq_true rfl) (Nat.le_of_ble_eq_true rfl) ?_
    refine kM hk hQ1 hR1 ?_
    first | rfl | contradiction | (simp [qIf, qR, mM_sI, mI_sI, mI_sM, mM_sM, b2i, c0]; done) | (simp [qIf, qR, mM_sI, mI_sI, mI_sM, mM_sM, b2i, c0]; rfl) | (simp_all [qIf, qR, mM_sI, mI_sI, mI_sM, mM_sM, b2i, c0]; done)
  · try simp only [mM_sI, mM_sM] at c0
    have ht := qIT_in hw c0
    refine r_aload_n (pc' := 13) h dX5_outputOf_12 rfl rfl ?_
    refine r_iload_n (pc' := 14) h dX5_outputOf_13 rfl rfl ?_
    refine r_callV1 (pc' := 17) (M := mX5_output) h hm dX5_outputOf_14 rfl lX5_77 vX5_output rfl hQ1.l0 hQ1.o (Nat.le_of_ble_eq_true rfl) (rrb rfl) (kX5_output hQ1 hw (ht) ?_)
    show AW X G _ _ _ _ _ _ _ _
    refine r_goto (tgt := 21) h dX5_outputOf_17 (by decide) ?_
    refine r_ireturn h hm dX5_outputOf_21 (Nat.le_of_ble_eq_true rfl) (Nat.le_of_ble_eq_true rfl) ?_
    refine kM hk hQ1 hR1 ?_
    first | rfl | contradiction | (simp [qIf, qR, mM_sI, mI_sI, mI_sM, mM_sM, b2i, c0]; done) | (simp [qIf, qR, mM_sI, mI_sI, mI_sM, mM_sM, b2i, c0]; rfl) | (simp_all [qIf, qR, mM_sI, mI_sI, mI_sM, mM_sM, b2i, c0]; done)
theorem kX5_limitOf {l : Launch} {G : GX} {N : Nat} {S : Nat → va_E} {K : RK} {Q : MM} (hQ : isM G N S Q) (hw : wM (mM Q)) {x : Int32} (hk : ∀ S1, isM G N S1 (qLOf Q x).1 → GR S S1 → K (.inl (some (.int (qLOf Q x).2))) S1) : RetK l G N mX5_limitOf (2, 43, 0, 0) [.ref (ad G 119), .int x] S K := by
  refine ret_enter (by decide +kernel) (Nat.le_of_ble_eq_true rfl) (fun X hX h hm => ?_)
  subst hX
  replace h : OK X G N cX5_limitOf RX5 2 (2, 43, 0, 0) := h
  replace hm : OKm X G N K (some .int) (2, 43, 0, 0) := hm
  show AW X G 2 N 0 [(0, _), (1, _)] [] S 0 0
  refine r_aload_n (pc' := 1) h dX5_limitOf_0 rfl rfl ?_
  refine r_aload_n (pc' := 2) h dX5_limitOf_1 rfl rfl ?_
  refine r_iload_n (pc' := 3) h dX5_limitOf_2 rfl rfl ?_
  refine r_callV1 (pc' := 6) (M := mX5_isTurbine) h hm dX5_limitOf_3 rfl lX5_103 vX5_isTurbine rfl hQ.l0 hQ.o (Nat.le_of_ble_eq_true rfl) (rrb rfl) (kX5_isTurbine hQ ?_)
  show AW X G _ _ _ _ _ _ _ _
  refine r_if_neb (tgt := 13) (pc' := 9) h dX5_limitOf_6 (by decide) rfl (fun c0 => ?_) (fun c0 => ?_)
  · try simp only [mM_sI, mM_sM] at c0
    have ht := qIT_in hw c0
    refine r_aload_n (pc' := 14) h dX5_limitOf_13 rfl rfl ?_
    refine r_iload_n (pc' := 15) h dX5_limitOf_14 rfl rfl ?_
    refine r_iconst (pc' := 16) (v := 5) h dX5_limitOf_15 rfl (by decide) ?_
    refine r_callV2 (pc' := 19) (M := mX5_t) h hm dX5_limitOf_16 rfl lX5_57 vX5_t rfl hQ.l0 hQ.o (Nat.le_of_ble_eq_true rfl) (rrb rfl) (kX5_t hQ (ix_T (w := 5) (ht) (by decide)) ?_)
    show AW X G _ _ _ _ _ _ _ _
    refine r_if_ne (tgt := 26) (pc' := 22) h dX5_limitOf_19 (by decide) rfl (fun c1 => ?_) (fun c1 => ?_)
    · try simp only [mM_sI, mM_sM] at c1
      refine r_iconst (pc' := 27) (v := 0) h dX5_limitOf_26 rfl (by decide) ?_
      refine pX5_27 (pc' := 30) h dX5_limitOf_27 rfl hQ.l0 hQ.o (Nat.le_of_ble_eq_true rfl) ?_
      refine wM0 hQ (fun S1 hQ1 hR1 => ?_)
      refine r_aload_n (pc' := 31) h dX5_limitOf_30 rfl rfl ?_
      refine gX5_27 (pc' := 34) h dX5_limitOf_31 rfl hQ1.l0 hQ1.o rfl ?_
      show AW X G _ _ _ _ (.int 0 :: _) _ _ _
      refine r_if_ne (tgt := 48) (pc' := 37) h dX5_limitOf_34 (by decide) rfl (fun c => absurd c (by decide)) (fun _ => ?_)
      refine r_aload_n (pc' := 38) h dX5_limitOf_37 rfl rfl ?_
      refine r_iload_n (pc' := 39) h dX5_limitOf_38 rfl rfl ?_
      refine r_iconst (pc' := 40) (v := 5) h dX5_limitOf_39 rfl (by decide) ?_
      refine r_callV2 (pc' := 43) (M := mX5_t) h hm dX5_limitOf_40 rfl lX5_57 vX5_t rfl hQ1.l0 hQ1.o (Nat.le_of_ble_eq_true rfl) (rrb rfl) (kX5_t hQ1 (ix_T (w := 5) (ht) (by decide)) ?_)
      show AW X G _ _ _ _ _ _ _ _
      refine r_iconst (pc' := 44) (v := 1) h dX5_limitOf_43 rfl (by decide) ?_
      refine r_isub (pc' := 45) h dX5_limitOf_44 rfl ?_
      refine r_goto (tgt := 49) h dX5_limitOf_45 (by decide) ?_
      refine r_ireturn h hm dX5_limitOf_49 (Nat.le_of_ble_eq_true rfl) (Nat.le_of_ble_eq_true rfl) ?_
      refine kM hk hQ1 hR1 ?_
      first | rfl | contradiction | (simp [qLOf, qIf, qR, mM_sI, mI_sI, mI_sM, mM_sM, b2i, c0, c1]; done) | (simp [qLOf, qIf, qR, mM_sI, mI_sI, mI_sM, mM_sM, b2i, c0, c1]; rfl) | (simp_all [qLOf, qIf, qR, mM_sI, mI_sI, mI_sM, mM_sM, b2i, c0, c1]; done)
    · try simp only [mM_sI, mM_sM] at c1
      refine r_iconst (pc' := 23) (v := 2) h dX5_limitOf_22 rfl (by decide) ?_
      refine r_goto (tgt := 27) h dX5_limitOf_23 (by decide) ?_
      refine pX5_27 (pc' := 30) h dX5_limitOf_27 rfl hQ.l0 hQ.o (Nat.le_of_ble_eq_true rfl) ?_
      refine wM0 hQ (fun S2 hQ2 hR2 => ?_)
      refine r_aload_n (pc' := 31) h dX5_limitOf_30 rfl rfl ?_
      refine gX5_27 (pc' := 34) h dX5_limitOf_31 rfl hQ2.l0 hQ2.o rfl ?_
      show AW X G _ _ _ _ (.int 2 :: _) _ _ _
      refine r_if_ne (tgt := 48) (pc' := 37) h dX5_limitOf_34 (by decide) rfl (fun _ => ?_) (fun c => absurd c (by decide))
      refine r_iconst (pc' := 49) (v := 0) h dX5_limitOf_48 rfl (by decide) ?_
      refine r_ireturn h hm dX5_limitOf_49 (Nat.le_of_ble_eq_true rfl) (Nat.le_of_ble_eq_true rfl) ?_
      refine kM hk hQ2 hR2 ?_
      first | rfl | contradiction | (simp [qLOf, qIf, qR, mM_sI, mI_sI, mI_sM, mM_sM, b2i, c0, c1]; done) | (simp [qLOf, qIf, qR, mM_sI, mI_sI, mI_sM, mM_sM, b2i, c0, c1]; rfl) | (simp_all [qLOf, qIf, qR, mM_sI, mI_sI, mI_sM, mM_sM, b2i, c0, c1]; done)
  · try simp only [mM_sI, mM_sM] at c0
    refine r_iconst (pc' := 10) (v := 1) h dX5_limitOf_9 rfl (by decide) ?_
    refine r_goto (tgt := 27) h dX5_limitOf_10 (by decide) ?_
    refine pX5_27 (pc' := 30) h dX5_limitOf_27 rfl hQ.l0 hQ.o (Nat.le_of_ble_eq_true rfl) ?_
    refine wM0 hQ (fun S3 hQ3 hR3 => ?_)
    refine r_aload_n (pc' := 31) h dX5_limitOf_30 rfl rfl ?_
    refine gX5_27 (pc' := 34) h dX5_limitOf_31 rfl hQ3.l0 hQ3.o rfl ?_
    show AW X G _ _ _ _ (.int 1 :: _) _ _ _
    refine r_if_ne (tgt := 48) (pc' := 37) h dX5_limitOf_34 (by decide) rfl (fun _ => ?_) (fun c => absurd c (by decide))
    refine r_iconst (pc' := 49) (v := 0) h dX5_limitOf_48 rfl (by decide) ?_
    refine r_ireturn h hm dX5_limitOf_49 (Nat.le_of_ble_eq_true rfl) (Nat.le_of_ble_eq_true rfl) ?_
    refine kM hk hQ3 hR3 ?_
    first | rfl | contradiction | (simp [qLOf, qIf, qR, mM_sI, mI_sI, mI_sM, mM_sM, b2i, c0]; done) | (simp [qLOf, qIf, qR, mM_sI, mI_sI, mI_sM, mM_sM, b2i, c0]; rfl) | (simp_all [qLOf, qIf, qR, mM_sI, mI_sI, mI_sM, mM_sM, b2i, c0]; done)
theorem kX5_serviceHoursLeft {l : Launch} {G : GX} {N : Nat} {S : Nat → va_E} {K : RK} {Q : MM} (hQ : isM G N S Q) (hw : wM (mM Q)) {x : Int32} (hk : ∀ S1, isM G N S1 (qSH Q x).1 → GR S S1 → K (.inl (some (.int (qSH Q x).2))) S1) : RetK l G N mX5_serviceHoursLeft (2, 43, 0, 0) [.ref (ad G 119), .int x] S K := by
  refine ret_enter (by decide +kernel) (Nat.le_of_ble_eq_true rfl) (fun X hX h hm => ?_)
  subst hX
  replace h : OK X G N cX5_serviceHoursLeft RX5 2 (2, 43, 0, 0) := h
  replace hm : OKm X G N K (some .int) (2, 43, 0, 0) := hm
  show AW X G 2 N 0 [(0, _), (1, _)] [] S 0 0
  refine r_aload_n (pc' := 1) h dX5_serviceHoursLeft_0 rfl rfl ?_
  refine r_aload_n (pc' := 2) h dX5_serviceHoursLeft_1 rfl rfl ?_
  refine r_iload_n (pc' := 3) h dX5_serviceHoursLeft_2 rfl rfl ?_
  refine r_callV1 (pc' := 6) (M := mX5_isTurbine) h hm dX5_serviceHoursLeft_3 rfl lX5_103 vX5_isTurbine rfl hQ.l0 hQ.o (Nat.le_of_ble_eq_true rfl) (rrb rfl) (kX5_isTurbine hQ ?_)
  show AW X G _ _ _ _ _ _ _ _
  refine r_if_neb (tgt := 13) (pc' := 9) h dX5_serviceHoursLeft_6 (by decide) rfl (fun c0 => ?_) (fun c0 => ?_)
  · try simp only [mM_sI, mM_sM] at c0
    have ht := qIT_in hw c0
    refine r_aload_n (pc' := 14) h dX5_serviceHoursLeft_13 rfl rfl ?_
    refine r_iload_n (pc' := 15) h dX5_serviceHoursLeft_14 rfl rfl ?_
    refine r_iconst (pc' := 16) (v := 3) h dX5_serviceHoursLeft_15 rfl (by decide) ?_
    refine r_callV2 (pc' := 19) (M := mX5_t) h hm dX5_serviceHoursLeft_16 rfl lX5_57 vX5_t rfl hQ.l0 hQ.o (Nat.le_of_ble_eq_true rfl) (rrb rfl) (kX5_t hQ (ix_T (w := 3) (ht) (by decide)) ?_)
    show AW X G _ _ _ _ _ _ _ _
    refine r_iconst (pc' := 20) (v := 2) h dX5_serviceHoursLeft_19 rfl (by decide) ?_
    refine r_icmp_eq (tgt := 27) (pc' := 23) h dX5_serviceHoursLeft_20 (by decide) rfl (fun c1 => ?_) (fun c1 => ?_)
    · try simp only [mM_sI, mM_sM] at c1
      refine r_iconst (pc' := 28) (v := 0) h dX5_serviceHoursLeft_27 rfl (by decide) ?_
      refine pX5_27 (pc' := 31) h dX5_serviceHoursLeft_28 rfl hQ.l0 hQ.o (Nat.le_of_ble_eq_true rfl) ?_
      refine wM0 hQ (fun S1 hQ1 hR1 => ?_)
      refine r_aload_n (pc' := 32) h dX5_serviceHoursLeft_31 rfl rfl ?_
      refine gX5_27 (pc' := 35) h dX5_serviceHoursLeft_32 rfl hQ1.l0 hQ1.o rfl ?_
      show AW X G _ _ _ _ (.int 0 :: _) _ _ _
      refine r_if_ne (tgt := 47) (pc' := 38) h dX5_serviceHoursLeft_35 (by decide) rfl (fun c => absurd c (by decide)) (fun _ => ?_)
      refine r_aload_n (pc' := 39) h dX5_serviceHoursLeft_38 rfl rfl ?_
      refine r_iload_n (pc' := 40) h dX5_serviceHoursLeft_39 rfl rfl ?_
      refine r_iconst (pc' := 41) (v := 4) h dX5_serviceHoursLeft_40 rfl (by decide) ?_
      refine r_callV2 (pc' := 44) (M := mX5_t) h hm dX5_serviceHoursLeft_41 rfl lX5_57 vX5_t rfl hQ1.l0 hQ1.o (Nat.le_of_ble_eq_true rfl) (rrb rfl) (kX5_t hQ1 (ix_T (w := 4) (ht) (by decide)) ?_)
      show AW X G _ _ _ _ _ _ _ _
      refine r_goto (tgt := 48) h dX5_serviceHoursLeft_44 (by decide) ?_
      refine r_ireturn h hm dX5_serviceHoursLeft_48 (Nat.le_of_ble_eq_true rfl) (Nat.le_of_ble_eq_true rfl) ?_
      refine kM hk hQ1 hR1 ?_
      first | rfl | contradiction | (simp [qSH, qIf, qR, mM_sI, mI_sI, mI_sM, mM_sM, b2i, c0, c1]; done) | (simp [qSH, qIf, qR, mM_sI, mI_sI, mI_sM, mM_sM, b2i, c0, c1]; rfl) | (simp_all [qSH, qIf, qR, mM_sI, mI_sI, mI_sM, mM_sM, b2i, c0, c1]; done)
    · try simp only [mM_sI, mM_sM] at c1
      refine r_iconst (pc' := 24) (v := 2) h dX5_serviceHoursLeft_23 rfl (by decide) ?_
      refine r_goto (tgt := 28) h dX5_serviceHoursLeft_24 (by decide) ?_
      refine pX5_27 (pc' := 31) h dX5_serviceHoursLeft_28 rfl hQ.l0 hQ.o (Nat.le_of_ble_eq_true rfl) ?_
      refine wM0 hQ (fun S2 hQ2 hR2 => ?_)
      refine r_aload_n (pc' := 32) h dX5_serviceHoursLeft_31 rfl rfl ?_
      refine gX5_27 (pc' := 35) h dX5_serviceHoursLeft_32 rfl hQ2.l0 hQ2.o rfl ?_
      show AW X G _ _ _ _ (.int 2 :: _) _ _ _
      refine r_if_ne (tgt := 47) (pc' := 38) h dX5_serviceHoursLeft_35 (by decide) rfl (fun _ => ?_) (fun c => absurd c (by decide))
      refine r_iconst (pc' := 48) (v := 0) h dX5_serviceHoursLeft_47 rfl (by decide) ?_
      refine r_ireturn h hm dX5_serviceHoursLeft_48 (Nat.le_of_ble_eq_true rfl) (Nat.le_of_ble_eq_true rfl) ?_
      refine kM hk hQ2 hR2 ?_
      first | rfl | contradiction | (simp [qSH, qIf, qR, mM_sI, mI_sI, mI_sM, mM_sM, b2i, c0, c1]; done) | (simp [qSH, qIf, qR, mM_sI, mI_sI, mI_sM, mM_sM, b2i, c0, c1]; rfl) | (simp_all [qSH, qIf, qR, mM_sI, mI_sI, mI_sM, mM_sM, b2i, c0, c1]; done)
  · try simp only [mM_sI, mM_sM] at c0
    refine r_iconst (pc' := 10) (v := 1) h dX5_serviceHoursLeft_9 rfl (by decide) ?_
    refine r_goto (tgt := 28) h dX5_serviceHoursLeft_10 (by decide) ?_
    refine pX5_27 (pc' := 31) h dX5_serviceHoursLeft_28 rfl hQ.l0 hQ.o (Nat.le_of_ble_eq_true rfl) ?_
    refine wM0 hQ (fun S3 hQ3 hR3 => ?_)
    refine r_aload_n (pc' := 32) h dX5_serviceHoursLeft_31 rfl rfl ?_
    refine gX5_27 (pc' := 35) h dX5_serviceHoursLeft_32 rfl hQ3.l0 hQ3.o rfl ?_
    show AW X G _ _ _ _ (.int 1 :: _) _ _ _
    refine r_if_ne (tgt := 47) (pc' := 38) h dX5_serviceHoursLeft_35 (by decide) rfl (fun _ => ?_) (fun c => absurd c (by decide))
    refine r_iconst (pc' := 48) (v := 0) h dX5_serviceHoursLeft_47 rfl (by decide) ?_
    refine r_ireturn h hm dX5_serviceHoursLeft_48 (Nat.le_of_ble_eq_true rfl) (Nat.le_of_ble_eq_true rfl) ?_
    refine kM hk hQ3 hR3 ?_
    first | rfl | contradiction | (simp [qSH, qIf, qR, mM_sI, mI_sI, mI_sM, mM_sM, b2i, c0]; done) | (simp [qSH, qIf, qR, mM_sI, mI_sI, mI_sM, mM_sM, b2i, c0]; rfl) | (simp_all [qSH, qIf, qR, mM_sI, mI_sI, mI_sM, mM_sM, b2i, c0]; done)
theorem kX5_outputWith {l : Launch} {G : GX} {N : Nat} {S : Nat → va_E} {K : RK} {Q : MM} (hQ : isM G N S Q) (hw : wM (mM Q)) {x y : Int32} (hk : ∀ S1, isM G N S1 (qOW Q x y).1 → GR S S1 → K (.inl (some (.int (qOW Q x y).2))) S1) : RetK l G N mX5_outputWith (8, 183, 0, 0) [.ref (ad G 119), .int x, .int y] S K := by
  refine ret_enter (by decide +kernel) (Nat.le_of_ble_eq_true rfl) (fun X hX h hm => ?_)
  subst hX
  replace h : OK X G N cX5_outputWith RX5 3 (8, 183, 0, 0) := h
  replace hm : OKm X G N K (some .int) (8, 183, 0, 0) := hm
  show AW X G 3 N 0 [(0, _), (1, _), (2, _)] [] S 0 0
  refine r_aload_n (pc' := 1) h dX5_outputWith_0 rfl rfl ?_
  refine r_iload_n (pc' := 2) h dX5_outputWith_1 rfl rfl ?_
  refine r_callS1 (pc' := 5) (M := mX5_wayOf) h hm dX5_outputWith_2 rfl lX5_132 vX5_wayOf (Nat.le_of_ble_eq_true rfl) (rrb rfl) (kX5_wayOf ?_)
  show AW X G _ _ _ _ _ _ _ _
  refine r_if_lt (tgt := 22) (pc' := 8) h dX5_outputWith_5 (by decide) rfl (fun c0 => ?_) (fun c0 => ?_)
  · try simp only [mM_sI, mM_sM] at c0
    refine r_iconst (pc' := 23) (v := 0) h dX5_outputWith_22 rfl (by decide) ?_
    refine r_callV1 (pc' := 26) (M := mX5_isFine) h hm dX5_outputWith_23 rfl lX5_49 vX5_isFine rfl hQ.l0 hQ.o (Nat.le_of_ble_eq_true rfl) (rrb rfl) (kX5_isFine (b := false) hQ (fun S1 hQ1 hR1 => ?_))
    show AW X G _ _ _ _ _ _ _ _
    show AW X G _ _ _ _ (.int 0 :: _) _ _ _
    have hQ1 : isM G N S1 (sMI _ 0 1) := hQ1
    refine r_if_eq (tgt := 41) (pc' := 29) h dX5_outputWith_26 (by decide) rfl (fun _ => ?_) (fun c => absurd c (by decide))
    refine r_iconst (pc' := 42) (v := 0) h dX5_outputWith_41 rfl (by decide) ?_
    refine r_ireturn h hm dX5_outputWith_42 (Nat.le_of_ble_eq_true rfl) (Nat.le_of_ble_eq_true rfl) ?_
    refine kM hk hQ1 hR1 ?_
    first | rfl | contradiction | (simp [qOW, qIf, qR, mM_sI, mI_sI, mI_sM, mM_sM, b2i, c0]; done) | (simp [qOW, qIf, qR, mM_sI, mI_sI, mI_sM, mM_sM, b2i, c0]; rfl) | (simp_all [qOW, qIf, qR, mM_sI, mI_sI, mI_sM, mM_sM, b2i, c0]; done)
  · try simp only [mM_sI, mM_sM] at c0
    refine r_iload_n (pc' := 9) h dX5_outputWith_8 rfl rfl ?_
    refine r_iconst (pc' := 10) (v := 0) h dX5_outputWith_9 rfl (by decide) ?_
    refine r_bipush (pc' := 12) (v := 30) h dX5_outputWith_10 rfl (by decide) ?_
    refine r_callS3 (pc' := 15) (M := mX5_in) h hm dX5_outputWith_12 rfl lX5_53 vX5_in (Nat.le_of_ble_eq_true rfl) (rrb rfl) (kX5_in ?_)
    show AW X G _ _ _ _ _ _ _ _
    refine r_if_eqb (tgt := 22) (pc' := 18) h dX5_outputWith_15 (by decide) rfl (fun c2 => ?_) (fun c2 => ?_)
    · try simp only [mM_sI, mM_sM] at c2
      refine r_iconst (pc' := 23) (v := 0) h dX5_outputWith_22 rfl (by decide) ?_
      refine r_callV1 (pc' := 26) (M := mX5_isFine) h hm dX5_outputWith_23 rfl lX5_49 vX5_isFine rfl hQ.l0 hQ.o (Nat.le_of_ble_eq_true rfl) (rrb rfl) (kX5_isFine (b := false) hQ (fun S2 hQ2 hR2 => ?_))
      show AW X G _ _ _ _ _ _ _ _
      show AW X G _ _ _ _ (.int 0 :: _) _ _ _
      have hQ2 : isM G N S2 (sMI _ 0 1) := hQ2
      refine r_if_eq (tgt := 41) (pc' := 29) h dX5_outputWith_26 (by decide) rfl (fun _ => ?_) (fun c => absurd c (by decide))
      refine r_iconst (pc' := 42) (v := 0) h dX5_outputWith_41 rfl (by decide) ?_
      refine r_ireturn h hm dX5_outputWith_42 (Nat.le_of_ble_eq_true rfl) (Nat.le_of_ble_eq_true rfl) ?_
      refine kM hk hQ2 hR2 ?_
      first | rfl | contradiction | (simp [qOW, qIf, qR, mM_sI, mI_sI, mI_sM, mM_sM, b2i, c0, c2]; done) | (simp [qOW, qIf, qR, mM_sI, mI_sI, mI_sM, mM_sM, b2i, c0, c2]; rfl) | (simp_all [qOW, qIf, qR, mM_sI, mI_sI, mI_sM, mM_sM, b2i, c0, c2]; done)
    · try simp only [mM_sI, mM_sM] at c2
      refine r_iconst (pc' := 19) (v := 1) h dX5_outputWith_18 rfl (by decide) ?_
      refine r_goto (tgt := 23) h dX5_outputWith_19 (by decide) ?_
      refine r_callV1 (pc' := 26) (M := mX5_isFine) h hm dX5_outputWith_23 rfl lX5_49 vX5_isFine rfl hQ.l0 hQ.o (Nat.le_of_ble_eq_true rfl) (rrb rfl) (kX5_isFine (b := true) hQ (fun S3 hQ3 hR3 => ?_))
      show AW X G _ _ _ _ _ _ _ _
      show AW X G _ _ _ _ (.int 1 :: _) _ _ _
      have hQ3 : isM G N S3 (sMI _ 0 0) := hQ3
      refine r_if_eq (tgt := 41) (pc' := 29) h dX5_outputWith_26 (by decide) rfl (fun c => absurd c (by decide)) (fun _ => ?_)
      refine r_aload_n (pc' := 30) h dX5_outputWith_29 rfl rfl ?_
      refine r_iload_n (pc' := 31) h dX5_outputWith_30 rfl rfl ?_
      refine r_callS1 (pc' := 34) (M := mX5_wayOf) h hm dX5_outputWith_31 rfl lX5_132 vX5_wayOf (Nat.le_of_ble_eq_true rfl) (rrb rfl) (kX5_wayOf ?_)
      show AW X G _ _ _ _ _ _ _ _
      refine r_iload_n (pc' := 35) h dX5_outputWith_34 rfl rfl ?_
      refine r_callV2 (pc' := 38) (M := mX5_totalWith) h hm dX5_outputWith_35 rfl lX5_181 vX5_totalWith rfl hQ3.l0 hQ3.o (Nat.le_of_ble_eq_true rfl) (rrb rfl) (kX5_totalWith hQ3 hw (fun S4 hQ4 hR4 => ?_))
      show AW X G _ _ _ _ _ _ _ _
      refine r_goto (tgt := 42) h dX5_outputWith_38 (by decide) ?_
      refine r_ireturn h hm dX5_outputWith_42 (Nat.le_of_ble_eq_true rfl) (Nat.le_of_ble_eq_true rfl) ?_
      refine kM hk hQ4 ((hR3).trans hR4) ?_
      first | rfl | contradiction | (simp [qOW, qIf, qR, mM_sI, mI_sI, mI_sM, mM_sM, b2i, c0, c2]; done) | (simp [qOW, qIf, qR, mM_sI, mI_sI, mI_sM, mM_sM, b2i, c0, c2]; rfl) | (simp_all [qOW, qIf, qR, mM_sI, mI_sI, mI_sM, mM_sM, b2i, c0, c2]; done)
theorem kX5_bestDirection {l : Launch} {G : GX} {N : Nat} {S : Nat → va_E} {K : RK} {Q : MM} (hQ : isM G N S Q) (hw : wM (mM Q)) (hk : ∀ S1, isM G N S1 (qR Q 0 (qSgn (qBD (mM Q) 3))).1 → GR S S1 → K (.inl (some (.int (qR Q 0 (qSgn (qBD (mM Q) 3))).2))) S1) : RetK l G N mX5_bestDirection (8, 183, 0, 0) [.ref (ad G 119)] S K := by
  refine ret_enter (by decide +kernel) (Nat.le_of_ble_eq_true rfl) (fun X hX h hm => ?_)
  subst hX
  replace h : OK X G N cX5_bestDirection RX5 3 (8, 183, 0, 0) := h
  replace hm : OKm X G N K (some .char) (8, 183, 0, 0) := hm
  show AW X G 3 N 0 [(0, _)] [] S 0 0
  refine r_aload_n (pc' := 1) h dX5_bestDirection_0 rfl rfl ?_
  refine r_iconst (pc' := 2) (v := 0) h dX5_bestDirection_1 rfl (by decide) ?_
  refine pX5_27 (pc' := 5) h dX5_bestDirection_2 rfl hQ.l0 hQ.o (Nat.le_of_ble_eq_true rfl) ?_
  refine wM0 hQ (fun S1 hQ1 hR1 => ?_)
  refine r_iconst (pc' := 6) (v := 0) h dX5_bestDirection_5 rfl (by decide) ?_
  refine r_istoren (j := 1) (pc' := 7) h rfl dX5_bestDirection_6 rfl (by decide) rfl ?_
  refine r_iconst (pc' := 8) (v := 1) h dX5_bestDirection_7 rfl (by decide) ?_
  refine r_istoren (j := 2) (pc' := 9) h rfl dX5_bestDirection_8 rfl (by decide) rfl ?_
  have loop : ∀ (n j : Nat), j ≤ 3 → 3 - j < n → ∀ Sj, isM G N Sj (sMI Q 0 0) → GR S Sj → AW X G 3 N 9 [(0, .ref (ad G 119)), (1, .int (qBD (mM Q) j)), (2, .int (nI (j + 1)))] [] Sj 0 0 := by
    intro n
    induction n with
    | zero => intro j h1 h2; exact absurd h2 (by omega)
    | succ n ih =>
      intro j h1 h2 Sj hj1 hr1
      refine r_iload_n (pc' := 10) h dX5_bestDirection_9 rfl rfl ?_
      refine r_iconst (pc' := 11) (v := 4) h dX5_bestDirection_10 rfl (by decide) ?_
      refine r_icmp_ge (tgt := 51) (pc' := 14) h dX5_bestDirection_11 (by decide) rfl (fun c0 => ?_) (fun c0 => ?_)
      · try simp only [mM_sI, mM_sM] at c0
        have ej : j = 3 := by rcases Nat.lt_or_ge (j + 1) 4 with q | q; exact absurd c0 (nI_ge (b := 4) q (by decide)); omega
        subst ej
        refine r_iload_n (pc' := 52) h dX5_bestDirection_51 rfl rfl ?_
        refine r_callS1 (pc' := 55) (M := mX5_signOf) h hm dX5_bestDirection_52 rfl lX5_174 vX5_signOf (Nat.le_of_ble_eq_true rfl) (rrb rfl) (kX5_signOf ?_)
        show AW X G _ _ _ _ _ _ _ _
        refine r_zreturn h hm dX5_bestDirection_55 (Nat.le_of_ble_eq_true rfl) (Nat.le_of_ble_eq_true rfl) (nar_qSgn _) ?_
        refine kM hk hj1 hr1 ?_
        first | rfl | contradiction | (simp [qIf, qR, mM_sI, mI_sI, mI_sM, mM_sM, b2i, c0]; done) | (simp [qIf, qR, mM_sI, mI_sI, mI_sM, mM_sM, b2i, c0]; rfl) | (simp_all [qIf, qR, mM_sI, mI_sI, mI_sM, mM_sM, b2i, c0]; done)
      · try simp only [mM_sI, mM_sM] at c0
        have hj : j < 3 := by rcases Nat.lt_or_ge (j + 1) 4 with q | q; omega; exact absurd (nI_le (a := 4) q (by omega)) c0
        refine r_aload_n (pc' := 15) h dX5_bestDirection_14 rfl rfl ?_
        refine r_iload_n (pc' := 16) h dX5_bestDirection_15 rfl rfl ?_
        refine r_aload_n (pc' := 17) h dX5_bestDirection_16 rfl rfl ?_
        refine gX5_9 (pc' := 20) h dX5_bestDirection_17 rfl hj1.l0 hj1.o rfl ?_
        refine r_iconst (pc' := 21) (v := 2) h dX5_bestDirection_20 rfl (by decide) ?_
        refine r_ialdk (k0 := 2) (pc' := 22) h dX5_bestDirection_21 rfl hj1.l1 hj1.r1 (by unfold vp_in; decide) rfl ?_
        refine r_callV2 (pc' := 25) (M := mX5_totalWith) h hm dX5_bestDirection_22 rfl lX5_181 vX5_totalWith rfl hj1.l0 hj1.o (Nat.le_of_ble_eq_true rfl) (rrb rfl) (kX5_totalWith hj1 hw (fun S2 hQ2 hR2 => ?_))
        show AW X G _ _ _ _ _ _ _ _
        refine r_aload_n (pc' := 26) h dX5_bestDirection_25 rfl rfl ?_
        refine r_iload_n (pc' := 27) h dX5_bestDirection_26 rfl rfl ?_
        refine r_aload_n (pc' := 28) h dX5_bestDirection_27 rfl rfl ?_
        refine gX5_9 (pc' := 31) h dX5_bestDirection_28 rfl hQ2.l0 hQ2.o rfl ?_
        refine r_iconst (pc' := 32) (v := 2) h dX5_bestDirection_31 rfl (by decide) ?_
        refine r_ialdk (k0 := 2) (pc' := 33) h dX5_bestDirection_32 rfl hQ2.l1 hQ2.r1 (by unfold vp_in; decide) rfl ?_
        refine r_callV2 (pc' := 36) (M := mX5_totalWith) h hm dX5_bestDirection_33 rfl lX5_181 vX5_totalWith rfl hQ2.l0 hQ2.o (Nat.le_of_ble_eq_true rfl) (rrb rfl) (kX5_totalWith hQ2 hw (fun S3 hQ3 hR3 => ?_))
        show AW X G _ _ _ _ _ _ _ _
        refine r_icmp_le (tgt := 43) (pc' := 39) h dX5_bestDirection_36 (by decide) rfl (fun c1 => ?_) (fun c1 => ?_)
        · try simp only [mM_sI, mM_sM] at c1
          refine r_iload_n (pc' := 44) h dX5_bestDirection_43 rfl rfl ?_
          refine r_istoren (j := 1) (pc' := 45) h rfl dX5_bestDirection_44 rfl (by decide) rfl ?_
          refine r_iinc (pc' := 48) (v := 1) h dX5_bestDirection_45 rfl (by decide) (by decide) rfl rfl ?_
          refine r_goto (tgt := 9) h dX5_bestDirection_48 (by decide) ?_
          exact aw_cast (by simp [qBD, nI_1, mM_sI, mI_sI, mI_sM, mM_sM, c0, c1]) (ih (j + 1) (by omega) (by omega) _ hQ3 (((hr1).trans hR2).trans hR3))
        · try simp only [mM_sI, mM_sM] at c1
          refine r_iload_n (pc' := 40) h dX5_bestDirection_39 rfl rfl ?_
          refine r_goto (tgt := 44) h dX5_bestDirection_40 (by decide) ?_
          refine r_istoren (j := 1) (pc' := 45) h rfl dX5_bestDirection_44 rfl (by decide) rfl ?_
          refine r_iinc (pc' := 48) (v := 1) h dX5_bestDirection_45 rfl (by decide) (by decide) rfl rfl ?_
          refine r_goto (tgt := 9) h dX5_bestDirection_48 (by decide) ?_
          exact aw_cast (by simp [qBD, nI_1, mM_sI, mI_sI, mI_sM, mM_sM, c0, c1]) (ih (j + 1) (by omega) (by omega) _ hQ3 (((hr1).trans hR2).trans hR3))
  exact loop 4 0 (Nat.zero_le _) (by omega) _ hQ1 hR1
theorem kX5_hasBid {l : Launch} {G : GX} {N : Nat} {S : Nat → va_E} {K : RK} {Q : MM} (hQ : isM G N S Q) {x : Int32} (hk : ∀ S1, isM G N S1 (qHB Q x).1 → GR S S1 → K (.inl (some (.int (qHB Q x).2))) S1) : RetK l G N mX5_hasBid (2, 42, 0, 0) [.ref (ad G 119), .int x] S K := by
  refine ret_enter (by decide +kernel) (Nat.le_of_ble_eq_true rfl) (fun X hX h hm => ?_)
  subst hX
  replace h : OK X G N cX5_hasBid RX5 2 (2, 42, 0, 0) := h
  replace hm : OKm X G N K (some .boolean) (2, 42, 0, 0) := hm
  show AW X G 2 N 0 [(0, _), (1, _)] [] S 0 0
  refine r_aload_n (pc' := 1) h dX5_hasBid_0 rfl rfl ?_
  refine r_iload_n (pc' := 2) h dX5_hasBid_1 rfl rfl ?_
  refine r_callS1 (pc' := 5) (M := mX5_isHour) h hm dX5_hasBid_2 rfl lX5_150 vX5_isHour (Nat.le_of_ble_eq_true rfl) (rrb rfl) (kX5_isHour ?_)
  show AW X G _ _ _ _ _ _ _ _
  refine r_callV1 (pc' := 8) (M := mX5_isFine) h hm dX5_hasBid_5 rfl lX5_49 vX5_isFine rfl hQ.l0 hQ.o (Nat.le_of_ble_eq_true rfl) (rrb rfl) (kX5_isFine hQ (fun S1 hQ1 hR1 => ?_))
  show AW X G _ _ _ _ _ _ _ _
  refine r_if_eqb (tgt := 23) (pc' := 11) h dX5_hasBid_8 (by decide) rfl (fun c0 => ?_) (fun c0 => ?_)
  · try simp only [mM_sI, mM_sM] at c0
    refine r_iconst (pc' := 24) (v := 0) h dX5_hasBid_23 rfl (by decide) ?_
    refine r_zreturn h hm dX5_hasBid_24 (Nat.le_of_ble_eq_true rfl) (Nat.le_of_ble_eq_true rfl) (by first | rfl | exact nar_b _) ?_
    refine kM hk hQ1 hR1 ?_
    first | rfl | contradiction | (simp [qHB, qIf, qR, mM_sI, mI_sI, mI_sM, mM_sM, b2i, c0]; done) | (simp [qHB, qIf, qR, mM_sI, mI_sI, mI_sM, mM_sM, b2i, c0]; rfl) | (simp_all [qHB, qIf, qR, mM_sI, mI_sI, mI_sM, mM_sM, b2i, c0]; done)
  · try simp only [mM_sI, mM_sM] at c0
    have hx := isH_in c0
    refine r_aload_n (pc' := 12) h dX5_hasBid_11 rfl rfl ?_
    refine r_iload_n (pc' := 13) h dX5_hasBid_12 rfl rfl ?_
    refine r_callV1 (pc' := 16) (M := mX5_price) h hm dX5_hasBid_13 rfl lX5_147 vX5_price rfl hQ1.l0 hQ1.o (Nat.le_of_ble_eq_true rfl) (rrb rfl) (kX5_price hQ1 (hx) ?_)
    show AW X G _ _ _ _ _ _ _ _
    refine r_if_le (tgt := 23) (pc' := 19) h dX5_hasBid_16 (by decide) rfl (fun c1 => ?_) (fun c1 => ?_)
    · try simp only [mM_sI, mM_sM] at c1
      refine r_iconst (pc' := 24) (v := 0) h dX5_hasBid_23 rfl (by decide) ?_
      refine r_zreturn h hm dX5_hasBid_24 (Nat.le_of_ble_eq_true rfl) (Nat.le_of_ble_eq_true rfl) (by first | rfl | exact nar_b _) ?_
      refine kM hk hQ1 hR1 ?_
      first | rfl | contradiction | (simp [qHB, qIf, qR, mM_sI, mI_sI, mI_sM, mM_sM, b2i, c0, c1]; done) | (simp [qHB, qIf, qR, mM_sI, mI_sI, mI_sM, mM_sM, b2i, c0, c1]; rfl) | (simp_all [qHB, qIf, qR, mM_sI, mI_sI, mI_sM, mM_sM, b2i, c0, c1]; done)
    · try simp only [mM_sI, mM_sM] at c1
      refine r_iconst (pc' := 20) (v := 1) h dX5_hasBid_19 rfl (by decide) ?_
      refine r_goto (tgt := 24) h dX5_hasBid_20 (by decide) ?_
      refine r_zreturn h hm dX5_hasBid_24 (Nat.le_of_ble_eq_true rfl) (Nat.le_of_ble_eq_true rfl) (by first | rfl | exact nar_b _) ?_
      refine kM hk hQ1 hR1 ?_
      first | rfl | contradiction | (simp [qHB, qIf, qR, mM_sI, mI_sI, mI_sM, mM_sM, b2i, c0, c1]; done) | (simp [qHB, qIf, qR, mM_sI, mI_sI, mI_sM, mM_sM, b2i, c0, c1]; rfl) | (simp_all [qHB, qIf, qR, mM_sI, mI_sI, mI_sM, mM_sM, b2i, c0, c1]; done)
theorem kX5_isBid {l : Launch} {G : GX} {N : Nat} {S : Nat → va_E} {K : RK} {Q : MM} (hQ : isM G N S Q) {x : Int32} (hk : ∀ S1, isM G N S1 ((sMI Q 0 (if isHour' x then (if qPr (mM Q) x = 0 then 2 else 0) else 1), b2i (isHour' x && decide (¬ qPr (mM Q) x = 0)))).1 → GR S S1 → K (.inl (some (.int ((sMI Q 0 (if isHour' x then (if qPr (mM Q) x = 0 then 2 else 0) else 1), b2i (isHour' x && decide (¬ qPr (mM Q) x = 0)))).2))) S1) : RetK l G N mX5_isBid (2, 42, 0, 0) [.ref (ad G 119), .int x] S K := by
  refine ret_enter (by decide +kernel) (Nat.le_of_ble_eq_true rfl) (fun X hX h hm => ?_)
  subst hX
  replace h : OK X G N cX5_isBid RX5 2 (2, 42, 0, 0) := h
  replace hm : OKm X G N K (some .boolean) (2, 42, 0, 0) := hm
  show AW X G 2 N 0 [(0, _), (1, _)] [] S 0 0
  refine r_aload_n (pc' := 1) h dX5_isBid_0 rfl rfl ?_
  refine r_iload_n (pc' := 2) h dX5_isBid_1 rfl rfl ?_
  refine r_callS1 (pc' := 5) (M := mX5_isHour) h hm dX5_isBid_2 rfl lX5_150 vX5_isHour (Nat.le_of_ble_eq_true rfl) (rrb rfl) (kX5_isHour ?_)
  show AW X G _ _ _ _ _ _ _ _
  refine r_if_neb (tgt := 12) (pc' := 8) h dX5_isBid_5 (by decide) rfl (fun c0 => ?_) (fun c0 => ?_)
  · try simp only [mM_sI, mM_sM] at c0
    have hx := isH_in c0
    refine r_aload_n (pc' := 13) h dX5_isBid_12 rfl rfl ?_
    refine r_iload_n (pc' := 14) h dX5_isBid_13 rfl rfl ?_
    refine r_callV1 (pc' := 17) (M := mX5_price) h hm dX5_isBid_14 rfl lX5_147 vX5_price rfl hQ.l0 hQ.o (Nat.le_of_ble_eq_true rfl) (rrb rfl) (kX5_price hQ (hx) ?_)
    show AW X G _ _ _ _ _ _ _ _
    refine r_if_ne (tgt := 24) (pc' := 20) h dX5_isBid_17 (by decide) rfl (fun c1 => ?_) (fun c1 => ?_)
    · try simp only [mM_sI, mM_sM] at c1
      refine r_iconst (pc' := 25) (v := 0) h dX5_isBid_24 rfl (by decide) ?_
      refine pX5_27 (pc' := 28) h dX5_isBid_25 rfl hQ.l0 hQ.o (Nat.le_of_ble_eq_true rfl) ?_
      refine wM0 hQ (fun S1 hQ1 hR1 => ?_)
      refine r_aload_n (pc' := 29) h dX5_isBid_28 rfl rfl ?_
      refine gX5_27 (pc' := 32) h dX5_isBid_29 rfl hQ1.l0 hQ1.o rfl ?_
      show AW X G _ _ _ _ (.int 0 :: _) _ _ _
      refine r_if_ne (tgt := 39) (pc' := 35) h dX5_isBid_32 (by decide) rfl (fun c => absurd c (by decide)) (fun _ => ?_)
      refine r_iconst (pc' := 36) (v := 1) h dX5_isBid_35 rfl (by decide) ?_
      refine r_goto (tgt := 40) h dX5_isBid_36 (by decide) ?_
      refine r_zreturn h hm dX5_isBid_40 (Nat.le_of_ble_eq_true rfl) (Nat.le_of_ble_eq_true rfl) (by first | rfl | exact nar_b _) ?_
      refine kM hk hQ1 hR1 ?_
      first | rfl | contradiction | (simp [qIf, qR, mM_sI, mI_sI, mI_sM, mM_sM, b2i, c0, c1]; done) | (simp [qIf, qR, mM_sI, mI_sI, mI_sM, mM_sM, b2i, c0, c1]; rfl) | (simp_all [qIf, qR, mM_sI, mI_sI, mI_sM, mM_sM, b2i, c0, c1]; done)
    · try simp only [mM_sI, mM_sM] at c1
      refine r_iconst (pc' := 21) (v := 2) h dX5_isBid_20 rfl (by decide) ?_
      refine r_goto (tgt := 25) h dX5_isBid_21 (by decide) ?_
      refine pX5_27 (pc' := 28) h dX5_isBid_25 rfl hQ.l0 hQ.o (Nat.le_of_ble_eq_true rfl) ?_
      refine wM0 hQ (fun S2 hQ2 hR2 => ?_)
      refine r_aload_n (pc' := 29) h dX5_isBid_28 rfl rfl ?_
      refine gX5_27 (pc' := 32) h dX5_isBid_29 rfl hQ2.l0 hQ2.o rfl ?_
      show AW X G _ _ _ _ (.int 2 :: _) _ _ _
      refine r_if_ne (tgt := 39) (pc' := 35) h dX5_isBid_32 (by decide) rfl (fun _ => ?_) (fun c => absurd c (by decide))
      refine r_iconst (pc' := 40) (v := 0) h dX5_isBid_39 rfl (by decide) ?_
      refine r_zreturn h hm dX5_isBid_40 (Nat.le_of_ble_eq_true rfl) (Nat.le_of_ble_eq_true rfl) (by first | rfl | exact nar_b _) ?_
      refine kM hk hQ2 hR2 ?_
      first | rfl | contradiction | (simp [qIf, qR, mM_sI, mI_sI, mI_sM, mM_sM, b2i, c0, c1]; done) | (simp [qIf, qR, mM_sI, mI_sI, mI_sM, mM_sM, b2i, c0, c1]; rfl) | (simp_all [qIf, qR, mM_sI, mI_sI, mI_sM, mM_sM, b2i, c0, c1]; done)
  · try simp only [mM_sI, mM_sM] at c0
    refine r_iconst (pc' := 9) (v := 1) h dX5_isBid_8 rfl (by decide) ?_
    refine r_goto (tgt := 25) h dX5_isBid_9 (by decide) ?_
    refine pX5_27 (pc' := 28) h dX5_isBid_25 rfl hQ.l0 hQ.o (Nat.le_of_ble_eq_true rfl) ?_
    refine wM0 hQ (fun S3 hQ3 hR3 => ?_)
    refine r_aload_n (pc' := 29) h dX5_isBid_28 rfl rfl ?_
    refine gX5_27 (pc' := 32) h dX5_isBid_29 rfl hQ3.l0 hQ3.o rfl ?_
    show AW X G _ _ _ _ (.int 1 :: _) _ _ _
    refine r_if_ne (tgt := 39) (pc' := 35) h dX5_isBid_32 (by decide) rfl (fun _ => ?_) (fun c => absurd c (by decide))
    refine r_iconst (pc' := 40) (v := 0) h dX5_isBid_39 rfl (by decide) ?_
    refine r_zreturn h hm dX5_isBid_40 (Nat.le_of_ble_eq_true rfl) (Nat.le_of_ble_eq_true rfl) (by first | rfl | exact nar_b _) ?_
    refine kM hk hQ3 hR3 ?_
    first | rfl | contradiction | (simp [qIf, qR, mM_sI, mI_sI, mI_sM, mM_sM, b2i, c0]; done) | (simp [qIf, qR, mM_sI, mI_sI, mI_sM, mM_sM, b2i, c0]; rfl) | (simp_all [qIf, qR, mM_sI, mI_sI, mI_sM, mM_sM, b2i, c0]; done)
theorem kX5_bidPrice {l : Launch} {G : GX} {N : Nat} {S : Nat → va_E} {K : RK} {Q : MM} (hQ : isM G N S Q) {x : Int32} (hk : ∀ S1, isM G N S1 (qBk Q x (qPr (mM Q) x)).1 → GR S S1 → K (.inl (some (.int (qBk Q x (qPr (mM Q) x)).2))) S1) : RetK l G N mX5_bidPrice (3, 63, 0, 0) [.ref (ad G 119), .int x] S K := by
  refine ret_enter (by decide +kernel) (Nat.le_of_ble_eq_true rfl) (fun X hX h hm => ?_)
  subst hX
  replace h : OK X G N cX5_bidPrice RX5 2 (3, 63, 0, 0) := h
  replace hm : OKm X G N K (some .int) (3, 63, 0, 0) := hm
  show AW X G 2 N 0 [(0, _), (1, _)] [] S 0 0
  refine r_aload_n (pc' := 1) h dX5_bidPrice_0 rfl rfl ?_
  refine r_iload_n (pc' := 2) h dX5_bidPrice_1 rfl rfl ?_
  refine r_callV1 (pc' := 5) (M := mX5_isBid) h hm dX5_bidPrice_2 rfl lX5_184 vX5_isBid rfl hQ.l0 hQ.o (Nat.le_of_ble_eq_true rfl) (rrb rfl) (kX5_isBid hQ (fun S1 hQ1 hR1 => ?_))
  show AW X G _ _ _ _ _ _ _ _
  refine r_if_eqb (tgt := 16) (pc' := 8) h dX5_bidPrice_5 (by decide) rfl (fun c0 => ?_) (fun c0 => ?_)
  · try simp only [mM_sI, mM_sM] at c0
    refine r_iconst (pc' := 17) (v := 0) h dX5_bidPrice_16 rfl (by decide) ?_
    refine r_ireturn h hm dX5_bidPrice_17 (Nat.le_of_ble_eq_true rfl) (Nat.le_of_ble_eq_true rfl) ?_
    refine kM hk hQ1 hR1 ?_
    by_cases e1 : isHour' x = true <;> by_cases e2 : qPr (mM Q) x = 0 <;> simp_all [qBk, qR, mM_sI]
  · try simp only [mM_sI, mM_sM] at c0
    have hbb := c0
    simp only [Bool.and_eq_true, decide_eq_true_eq] at hbb
    have hx := isH_in hbb.1
    refine r_aload_n (pc' := 9) h dX5_bidPrice_8 rfl rfl ?_
    refine r_iload_n (pc' := 10) h dX5_bidPrice_9 rfl rfl ?_
    refine r_callV1 (pc' := 13) (M := mX5_price) h hm dX5_bidPrice_10 rfl lX5_147 vX5_price rfl hQ1.l0 hQ1.o (Nat.le_of_ble_eq_true rfl) (rrb rfl) (kX5_price hQ1 (hx) ?_)
    show AW X G _ _ _ _ _ _ _ _
    refine r_goto (tgt := 17) h dX5_bidPrice_13 (by decide) ?_
    refine r_ireturn h hm dX5_bidPrice_17 (Nat.le_of_ble_eq_true rfl) (Nat.le_of_ble_eq_true rfl) ?_
    refine kM hk hQ1 hR1 ?_
    by_cases e1 : isHour' x = true <;> by_cases e2 : qPr (mM Q) x = 0 <;> simp_all [qBk, qR, mM_sI]
theorem kX5_bidQuantity {l : Launch} {G : GX} {N : Nat} {S : Nat → va_E} {K : RK} {Q : MM} (hQ : isM G N S Q) {x : Int32} (hk : ∀ S1, isM G N S1 (qBk Q x (qQu (mM Q) x)).1 → GR S S1 → K (.inl (some (.int (qBk Q x (qQu (mM Q) x)).2))) S1) : RetK l G N mX5_bidQuantity (3, 63, 0, 0) [.ref (ad G 119), .int x] S K := by
  refine ret_enter (by decide +kernel) (Nat.le_of_ble_eq_true rfl) (fun X hX h hm => ?_)
  subst hX
  replace h : OK X G N cX5_bidQuantity RX5 2 (3, 63, 0, 0) := h
  replace hm : OKm X G N K (some .int) (3, 63, 0, 0) := hm
  show AW X G 2 N 0 [(0, _), (1, _)] [] S 0 0
  refine r_aload_n (pc' := 1) h dX5_bidQuantity_0 rfl rfl ?_
  refine r_iload_n (pc' := 2) h dX5_bidQuantity_1 rfl rfl ?_
  refine r_callV1 (pc' := 5) (M := mX5_isBid) h hm dX5_bidQuantity_2 rfl lX5_184 vX5_isBid rfl hQ.l0 hQ.o (Nat.le_of_ble_eq_true rfl) (rrb rfl) (kX5_isBid hQ (fun S1 hQ1 hR1 => ?_))
  show AW X G _ _ _ _ _ _ _ _
  refine r_if_eqb (tgt := 16) (pc' := 8) h dX5_bidQuantity_5 (by decide) rfl (fun c0 => ?_) (fun c0 => ?_)
  · try simp only [mM_sI, mM_sM] at c0
    refine r_iconst (pc' := 17) (v := 0) h dX5_bidQuantity_16 rfl (by decide) ?_
    refine r_ireturn h hm dX5_bidQuantity_17 (Nat.le_of_ble_eq_true rfl) (Nat.le_of_ble_eq_true rfl) ?_
    refine kM hk hQ1 hR1 ?_
    by_cases e1 : isHour' x = true <;> by_cases e2 : qPr (mM Q) x = 0 <;> simp_all [qBk, qR, mM_sI]
  · try simp only [mM_sI, mM_sM] at c0
    have hbb := c0
    simp only [Bool.and_eq_true, decide_eq_true_eq] at hbb
    have hx := isH_in hbb.1
    refine r_aload_n (pc' := 9) h dX5_bidQuantity_8 rfl rfl ?_
    refine r_iload_n (pc' := 10) h dX5_bidQuantity_9 rfl rfl ?_
    refine r_callV1 (pc' := 13) (M := mX5_quantity) h hm dX5_bidQuantity_10 rfl lX5_159 vX5_quantity rfl hQ1.l0 hQ1.o (Nat.le_of_ble_eq_true rfl) (rrb rfl) (kX5_quantity hQ1 (hx) ?_)
    show AW X G _ _ _ _ _ _ _ _
    refine r_goto (tgt := 17) h dX5_bidQuantity_13 (by decide) ?_
    refine r_ireturn h hm dX5_bidQuantity_17 (Nat.le_of_ble_eq_true rfl) (Nat.le_of_ble_eq_true rfl) ?_
    refine kM hk hQ1 hR1 ?_
    by_cases e1 : isHour' x = true <;> by_cases e2 : qPr (mM Q) x = 0 <;> simp_all [qBk, qR, mM_sI]
theorem kX5_bidByPrice {l : Launch} {G : GX} {N : Nat} {S : Nat → va_E} {K : RK} {Q : MM} (hQ : isM G N S Q) {x : Int32} (hk : ∀ S1, isM G N S1 (qBP Q x 0 24).1 → GR S S1 → K (.inl (some (.int (qBP Q x 0 24).2))) S1) : RetK l G N mX5_bidByPrice (1, 21, 0, 0) [.ref (ad G 119), .int x] S K := by
  refine ret_enter (by decide +kernel) (Nat.le_of_ble_eq_true rfl) (fun X hX h hm => ?_)
  subst hX
  replace h : OK X G N cX5_bidByPrice RX5 7 (1, 21, 0, 0) := h
  replace hm : OKm X G N K (some .int) (1, 21, 0, 0) := hm
  show AW X G 7 N 0 [(0, _), (1, _)] [] S 0 0
  refine r_iconst (pc' := 1) (v := 0) h dX5_bidByPrice_0 rfl (by decide) ?_
  refine r_istoren (j := 2) (pc' := 2) h rfl dX5_bidByPrice_1 rfl (by decide) rfl ?_
  have loop : ∀ (n j : Nat), j ≤ 24 → 24 - j < n → ∀ Sj v, isM G N Sj (sMI Q 0 v) → GR S Sj → qBP Q x j (24 - j) = qBP Q x 0 (24) → AW X G 7 N 2 [(0, .ref (ad G 119)), (1, .int x), (2, .int (nI j))] [] Sj 0 0 := by
    intro n
    induction n with
    | zero => intro j h1 h2; exact absurd h2 (by omega)
    | succ n ih =>
      intro j h1 h2 Sj v hj1 hr1 hv
      refine r_iload_n (pc' := 3) h dX5_bidByPrice_2 rfl rfl ?_
      refine r_bipush (pc' := 5) (v := 24) h dX5_bidByPrice_3 rfl (by decide) ?_
      refine r_icmp_ge (tgt := 133) (pc' := 8) h dX5_bidByPrice_5 (by decide) rfl (fun c0 => ?_) (fun c0 => ?_)
      · try simp only [mM_sI, mM_sM] at c0
        have ejj := lp_ge (c := 24) (rfl : (24 : Int32) = nI 24) (by decide) h1 c0
        subst ejj
        refine r_aload_n (pc' := 134) h dX5_bidByPrice_133 rfl rfl ?_
        refine r_iconst (pc' := 135) (v := 1) h dX5_bidByPrice_134 rfl (by decide) ?_
        refine pX5_27 (pc' := 138) h dX5_bidByPrice_135 rfl hj1.l0 hj1.o (Nat.le_of_ble_eq_true rfl) ?_
        refine wM0 hj1 (fun S1 hQ1 hR1 => ?_)
        refine r_iconst (pc' := 139) (v := 0) h dX5_bidByPrice_138 rfl (by decide) ?_
        refine r_ireturn h hm dX5_bidByPrice_139 (Nat.le_of_ble_eq_true rfl) (Nat.le_of_ble_eq_true rfl) ?_
        refine kM hk hQ1 ((hr1).trans hR1) ?_
        rw [← hv, Nat.sub_self]
        simp only [qBP, qR, sMI_twice]
      · try simp only [mM_sI, mM_sM] at c0
        have hjj := lp_lt (c := 24) (rfl : (24 : Int32) = nI 24) (by decide) h1 c0
        have ht : vp_in (nI j) 24 := nJ_in hjj (by decide)
        refine r_iconst (pc' := 9) (v := 0) h dX5_bidByPrice_8 rfl (by decide) ?_
        refine r_istoren (j := 3) (pc' := 10) h rfl dX5_bidByPrice_9 rfl (by decide) rfl ?_
        refine r_aload_n (pc' := 11) h dX5_bidByPrice_10 rfl rfl ?_
        refine r_iload_n (pc' := 12) h dX5_bidByPrice_11 rfl rfl ?_
        refine r_callV1 (pc' := 15) (M := mX5_price) h hm dX5_bidByPrice_12 rfl lX5_147 vX5_price rfl hj1.l0 hj1.o (Nat.le_of_ble_eq_true rfl) (rrb rfl) (kX5_price hj1 (ht) ?_)
        show AW X G _ _ _ _ _ _ _ _
        refine r_if_ne (tgt := 21) (pc' := 18) h dX5_bidByPrice_15 (by decide) rfl (fun c1 => ?_) (fun c1 => ?_)
        · try simp only [mM_sI, mM_sM] at c1
          refine r_iconst (pc' := 22) (v := 0) h dX5_bidByPrice_21 rfl (by decide) ?_
          refine r_istore (pc' := 24) h dX5_bidByPrice_22 rfl (by decide) rfl ?_
          have inner : ∀ (n2 i : Nat), i ≤ 24 → 24 - i < n2 → AW X G 7 N 24 [(0, .ref (ad G 119)), (1, .int x), (2, .int (nI j)), (3, .int (qBA (mM Q) (nI j) i)), (4, .int (nI i))] [] Sj 0 0 := by
            intro n2
            induction n2 with
            | zero => intro i h3 h4; exact absurd h4 (by omega)
            | succ n2 ih2 =>
              intro i h3 h4
              refine r_iload (pc' := 26) h dX5_bidByPrice_24 rfl rfl ?_
              refine r_bipush (pc' := 28) (v := 24) h dX5_bidByPrice_26 rfl (by decide) ?_
              refine r_icmp_ge (tgt := 108) (pc' := 31) h dX5_bidByPrice_28 (by decide) rfl (fun c2 => ?_) (fun c2 => ?_)
              · try simp only [mM_sI, mM_sM] at c2
                have eji := lp_ge (c := 24) (rfl : (24 : Int32) = nI 24) (by decide) h3 c2
                subst eji
                refine r_aload_n (pc' := 109) h dX5_bidByPrice_108 rfl rfl ?_
                refine r_iload_n (pc' := 110) h dX5_bidByPrice_109 rfl rfl ?_
                refine r_iload_n (pc' := 111) h dX5_bidByPrice_110 rfl rfl ?_
                refine r_icmp_ne (tgt := 118) (pc' := 114) h dX5_bidByPrice_111 (by decide) rfl (fun c3 => ?_) (fun c3 => ?_)
                · try simp only [mM_sI, mM_sM] at c3
                  refine r_iconst (pc' := 119) (v := 0) h dX5_bidByPrice_118 rfl (by decide) ?_
                  refine r_callV1 (pc' := 122) (M := mX5_isFine) h hm dX5_bidByPrice_119 rfl lX5_49 vX5_isFine rfl hj1.l0 hj1.o (Nat.le_of_ble_eq_true rfl) (rrb rfl) (kX5_isFine (b := false) hj1 (fun S2 hQ2 hR2 => ?_))
                  show AW X G _ _ _ _ _ _ _ _
                  show AW X G _ _ _ _ (.int 0 :: _) _ _ _
                  have hQ2 : isM G N S2 (sMI _ 0 1) := hQ2
                  refine r_if_eq (tgt := 127) (pc' := 125) h dX5_bidByPrice_122 (by decide) rfl (fun _ => ?_) (fun c => absurd c (by decide))
                  refine r_iinc (pc' := 130) (v := 1) h dX5_bidByPrice_127 rfl (by decide) (by decide) rfl rfl ?_
                  refine r_goto (tgt := 2) h dX5_bidByPrice_130 (by decide) ?_
                  refine r_sub (lo' := [(0, _), (1, _), (2, _)]) [0, 1, 2] rfl ?_
                  obtain ⟨k9, hk9⟩ : ∃ k9, 24 - j = k9 + 1 := ⟨24 - j - 1, by omega⟩
                  have hz : ∃ v, isM G N S2 (sMI Q 0 v) := ⟨_, by have e9 := hQ2; first | exact e9 | (rw [sMI_twice] at e9; exact e9)⟩
                  obtain ⟨v9, hz⟩ := hz
                  refine aw_cast (by simp [nI_1]) (ih (j + 1) (by omega) (by omega) _ v9 hz ((hr1).trans hR2) ?_)
                  rw [← hv, show 24 - (j + 1) = k9 by omega, hk9]
                  simp only [qBP]
                  first | (simp [c0, c1, c2, c3]; done) | (simp_all; done)
                · try simp only [mM_sI, mM_sM] at c3
                  refine r_iconst (pc' := 115) (v := 1) h dX5_bidByPrice_114 rfl (by decide) ?_
                  refine r_goto (tgt := 119) h dX5_bidByPrice_115 (by decide) ?_
                  refine r_callV1 (pc' := 122) (M := mX5_isFine) h hm dX5_bidByPrice_119 rfl lX5_49 vX5_isFine rfl hj1.l0 hj1.o (Nat.le_of_ble_eq_true rfl) (rrb rfl) (kX5_isFine (b := true) hj1 (fun S3 hQ3 hR3 => ?_))
                  show AW X G _ _ _ _ _ _ _ _
                  show AW X G _ _ _ _ (.int 1 :: _) _ _ _
                  have hQ3 : isM G N S3 (sMI _ 0 0) := hQ3
                  refine r_if_eq (tgt := 127) (pc' := 125) h dX5_bidByPrice_122 (by decide) rfl (fun c => absurd c (by decide)) (fun _ => ?_)
                  refine r_iload_n (pc' := 126) h dX5_bidByPrice_125 rfl rfl ?_
                  refine r_ireturn h hm dX5_bidByPrice_126 (Nat.le_of_ble_eq_true rfl) (Nat.le_of_ble_eq_true rfl) ?_
                  refine kM hk hQ3 ((hr1).trans hR3) ?_
                  obtain ⟨k9, hk9⟩ : ∃ k9, 24 - j = k9 + 1 := ⟨24 - j - 1, by omega⟩
                  rw [← hv, hk9]
                  simp only [qBP, qR, sMI_twice]
                  first | (simp [c0, c1, c2, c3]; done) | (simp_all; done)
              · try simp only [mM_sI, mM_sM] at c2
                have hji := lp_lt (c := 24) (rfl : (24 : Int32) = nI 24) (by decide) h3 c2
                have hu : vp_in (nI i) 24 := nJ_in hji (by decide)
                refine r_aload_n (pc' := 32) h dX5_bidByPrice_31 rfl rfl ?_
                refine r_iload (pc' := 34) h dX5_bidByPrice_32 rfl rfl ?_
                refine r_callV1 (pc' := 37) (M := mX5_price) h hm dX5_bidByPrice_34 rfl lX5_147 vX5_price rfl hj1.l0 hj1.o (Nat.le_of_ble_eq_true rfl) (rrb rfl) (kX5_price hj1 (hu) ?_)
                show AW X G _ _ _ _ _ _ _ _
                refine r_aload_n (pc' := 38) h dX5_bidByPrice_37 rfl rfl ?_
                refine r_iload_n (pc' := 39) h dX5_bidByPrice_38 rfl rfl ?_
                refine r_callV1 (pc' := 42) (M := mX5_price) h hm dX5_bidByPrice_39 rfl lX5_147 vX5_price rfl hj1.l0 hj1.o (Nat.le_of_ble_eq_true rfl) (rrb rfl) (kX5_price hj1 (ht) ?_)
                show AW X G _ _ _ _ _ _ _ _
                refine r_isub (pc' := 43) h dX5_bidByPrice_42 rfl ?_
                refine r_istore (pc' := 45) h dX5_bidByPrice_43 rfl (by decide) rfl ?_
                refine r_aload_n (pc' := 46) h dX5_bidByPrice_45 rfl rfl ?_
                refine r_iload (pc' := 48) h dX5_bidByPrice_46 rfl rfl ?_
                refine r_callV1 (pc' := 51) (M := mX5_quantity) h hm dX5_bidByPrice_48 rfl lX5_159 vX5_quantity rfl hj1.l0 hj1.o (Nat.le_of_ble_eq_true rfl) (rrb rfl) (kX5_quantity hj1 (hu) ?_)
                show AW X G _ _ _ _ _ _ _ _
                refine r_aload_n (pc' := 52) h dX5_bidByPrice_51 rfl rfl ?_
                refine r_iload_n (pc' := 53) h dX5_bidByPrice_52 rfl rfl ?_
                refine r_callV1 (pc' := 56) (M := mX5_quantity) h hm dX5_bidByPrice_53 rfl lX5_159 vX5_quantity rfl hj1.l0 hj1.o (Nat.le_of_ble_eq_true rfl) (rrb rfl) (kX5_quantity hj1 (ht) ?_)
                show AW X G _ _ _ _ _ _ _ _
                refine r_isub (pc' := 57) h dX5_bidByPrice_56 rfl ?_
                refine r_istore (pc' := 59) h dX5_bidByPrice_57 rfl (by decide) rfl ?_
                refine r_iload_n (pc' := 60) h dX5_bidByPrice_59 rfl rfl ?_
                refine r_aload_n (pc' := 61) h dX5_bidByPrice_60 rfl rfl ?_
                refine r_iload (pc' := 63) h dX5_bidByPrice_61 rfl rfl ?_
                refine r_callV1 (pc' := 66) (M := mX5_price) h hm dX5_bidByPrice_63 rfl lX5_147 vX5_price rfl hj1.l0 hj1.o (Nat.le_of_ble_eq_true rfl) (rrb rfl) (kX5_price hj1 (hu) ?_)
                show AW X G _ _ _ _ _ _ _ _
                refine r_if_le (tgt := 99) (pc' := 69) h dX5_bidByPrice_66 (by decide) rfl (fun c6 => ?_) (fun c6 => ?_)
                · try simp only [mM_sI, mM_sM] at c6
                  refine r_iconst (pc' := 100) (v := 0) h dX5_bidByPrice_99 rfl (by decide) ?_
                  refine r_iadd (pc' := 101) h dX5_bidByPrice_100 rfl ?_
                  refine r_istoren (j := 3) (pc' := 102) h rfl dX5_bidByPrice_101 rfl (by decide) rfl ?_
                  refine r_iinc (pc' := 105) (v := 1) h dX5_bidByPrice_102 rfl (by decide) (by decide) rfl rfl ?_
                  refine r_goto (tgt := 24) h dX5_bidByPrice_105 (by decide) ?_
                  refine r_sub (lo' := [(0, _), (1, _), (2, _), (3, _), (4, _)]) [0, 1, 2, 3, 4] rfl ?_
                  exact aw_cast (by simp [qBA, qBA1, b2i, nI_1, c0, c1, c2, c6]) (ih2 (i + 1) (by omega) (by omega))
                · try simp only [mM_sI, mM_sM] at c6
                  refine r_iload (pc' := 71) h dX5_bidByPrice_69 rfl rfl ?_
                  refine r_if_gt (tgt := 95) (pc' := 74) h dX5_bidByPrice_71 (by decide) rfl (fun c7 => ?_) (fun c7 => ?_)
                  · try simp only [mM_sI, mM_sM] at c7
                    refine r_iconst (pc' := 96) (v := 1) h dX5_bidByPrice_95 rfl (by decide) ?_
                    refine r_goto (tgt := 100) h dX5_bidByPrice_96 (by decide) ?_
                    refine r_iadd (pc' := 101) h dX5_bidByPrice_100 rfl ?_
                    refine r_istoren (j := 3) (pc' := 102) h rfl dX5_bidByPrice_101 rfl (by decide) rfl ?_
                    refine r_iinc (pc' := 105) (v := 1) h dX5_bidByPrice_102 rfl (by decide) (by decide) rfl rfl ?_
                    refine r_goto (tgt := 24) h dX5_bidByPrice_105 (by decide) ?_
                    refine r_sub (lo' := [(0, _), (1, _), (2, _), (3, _), (4, _)]) [0, 1, 2, 3, 4] rfl ?_
                    exact aw_cast (by simp [qBA, qBA1, b2i, nI_1, c0, c1, c2, c6, c7]) (ih2 (i + 1) (by omega) (by omega))
                  · try simp only [mM_sI, mM_sM] at c7
                    refine r_iload (pc' := 76) h dX5_bidByPrice_74 rfl rfl ?_
                    refine r_if_ne (tgt := 99) (pc' := 79) h dX5_bidByPrice_76 (by decide) rfl (fun c8 => ?_) (fun c8 => ?_)
                    · try simp only [mM_sI, mM_sM] at c8
                      refine r_iconst (pc' := 100) (v := 0) h dX5_bidByPrice_99 rfl (by decide) ?_
                      refine r_iadd (pc' := 101) h dX5_bidByPrice_100 rfl ?_
                      refine r_istoren (j := 3) (pc' := 102) h rfl dX5_bidByPrice_101 rfl (by decide) rfl ?_
                      refine r_iinc (pc' := 105) (v := 1) h dX5_bidByPrice_102 rfl (by decide) (by decide) rfl rfl ?_
                      refine r_goto (tgt := 24) h dX5_bidByPrice_105 (by decide) ?_
                      refine r_sub (lo' := [(0, _), (1, _), (2, _), (3, _), (4, _)]) [0, 1, 2, 3, 4] rfl ?_
                      exact aw_cast (by simp [qBA, qBA1, b2i, nI_1, c0, c1, c2, c6, c7, c8]) (ih2 (i + 1) (by omega) (by omega))
                    · try simp only [mM_sI, mM_sM] at c8
                      refine r_iload (pc' := 81) h dX5_bidByPrice_79 rfl rfl ?_
                      refine r_if_gt (tgt := 95) (pc' := 84) h dX5_bidByPrice_81 (by decide) rfl (fun c9 => ?_) (fun c9 => ?_)
                      · try simp only [mM_sI, mM_sM] at c9
                        refine r_iconst (pc' := 96) (v := 1) h dX5_bidByPrice_95 rfl (by decide) ?_
                        refine r_goto (tgt := 100) h dX5_bidByPrice_96 (by decide) ?_
                        refine r_iadd (pc' := 101) h dX5_bidByPrice_100 rfl ?_
                        refine r_istoren (j := 3) (pc' := 102) h rfl dX5_bidByPrice_101 rfl (by decide) rfl ?_
                        refine r_iinc (pc' := 105) (v := 1) h dX5_bidByPrice_102 rfl (by decide) (by decide) rfl rfl ?_
                        refine r_goto (tgt := 24) h dX5_bidByPrice_105 (by decide) ?_
                        refine r_sub (lo' := [(0, _), (1, _), (2, _), (3, _), (4, _)]) [0, 1, 2, 3, 4] rfl ?_
                        exact aw_cast (by simp [qBA, qBA1, b2i, nI_1, c0, c1, c2, c6, c7, c8, c9]) (ih2 (i + 1) (by omega) (by omega))
                      · try simp only [mM_sI, mM_sM] at c9
                        refine r_iload (pc' := 86) h dX5_bidByPrice_84 rfl rfl ?_
                        refine r_if_ne (tgt := 99) (pc' := 89) h dX5_bidByPrice_86 (by decide) rfl (fun c10 => ?_) (fun c10 => ?_)
                        · try simp only [mM_sI, mM_sM] at c10
                          refine r_iconst (pc' := 100) (v := 0) h dX5_bidByPrice_99 rfl (by decide) ?_
                          refine r_iadd (pc' := 101) h dX5_bidByPrice_100 rfl ?_
                          refine r_istoren (j := 3) (pc' := 102) h rfl dX5_bidByPrice_101 rfl (by decide) rfl ?_
                          refine r_iinc (pc' := 105) (v := 1) h dX5_bidByPrice_102 rfl (by decide) (by decide) rfl rfl ?_
                          refine r_goto (tgt := 24) h dX5_bidByPrice_105 (by decide) ?_
                          refine r_sub (lo' := [(0, _), (1, _), (2, _), (3, _), (4, _)]) [0, 1, 2, 3, 4] rfl ?_
                          exact aw_cast (by simp [qBA, qBA1, b2i, nI_1, c0, c1, c2, c6, c7, c8, c9, c10]) (ih2 (i + 1) (by omega) (by omega))
                        · try simp only [mM_sI, mM_sM] at c10
                          refine r_iload (pc' := 91) h dX5_bidByPrice_89 rfl rfl ?_
                          refine r_iload_n (pc' := 92) h dX5_bidByPrice_91 rfl rfl ?_
                          refine r_icmp_ge (tgt := 99) (pc' := 95) h dX5_bidByPrice_92 (by decide) rfl (fun c11 => ?_) (fun c11 => ?_)
                          · try simp only [mM_sI, mM_sM] at c11
                            refine r_iconst (pc' := 100) (v := 0) h dX5_bidByPrice_99 rfl (by decide) ?_
                            refine r_iadd (pc' := 101) h dX5_bidByPrice_100 rfl ?_
                            refine r_istoren (j := 3) (pc' := 102) h rfl dX5_bidByPrice_101 rfl (by decide) rfl ?_
                            refine r_iinc (pc' := 105) (v := 1) h dX5_bidByPrice_102 rfl (by decide) (by decide) rfl rfl ?_
                            refine r_goto (tgt := 24) h dX5_bidByPrice_105 (by decide) ?_
                            refine r_sub (lo' := [(0, _), (1, _), (2, _), (3, _), (4, _)]) [0, 1, 2, 3, 4] rfl ?_
                            exact aw_cast (by simp [qBA, qBA1, b2i, nI_1, c0, c1, c2, c6, c7, c8, c9, c10, c11]) (ih2 (i + 1) (by omega) (by omega))
                          · try simp only [mM_sI, mM_sM] at c11
                            refine r_iconst (pc' := 96) (v := 1) h dX5_bidByPrice_95 rfl (by decide) ?_
                            refine r_goto (tgt := 100) h dX5_bidByPrice_96 (by decide) ?_
                            refine r_iadd (pc' := 101) h dX5_bidByPrice_100 rfl ?_
                            refine r_istoren (j := 3) (pc' := 102) h rfl dX5_bidByPrice_101 rfl (by decide) rfl ?_
                            refine r_iinc (pc' := 105) (v := 1) h dX5_bidByPrice_102 rfl (by decide) (by decide) rfl rfl ?_
                            refine r_goto (tgt := 24) h dX5_bidByPrice_105 (by decide) ?_
                            refine r_sub (lo' := [(0, _), (1, _), (2, _), (3, _), (4, _)]) [0, 1, 2, 3, 4] rfl ?_
                            exact aw_cast (by simp [qBA, qBA1, b2i, nI_1, c0, c1, c2, c6, c7, c8, c9, c10, c11]) (ih2 (i + 1) (by omega) (by omega))
          exact inner (24 + 1) 0 (Nat.zero_le _) (by omega)
        · try simp only [mM_sI, mM_sM] at c1
          refine r_goto (tgt := 127) h dX5_bidByPrice_18 (by decide) ?_
          refine r_iinc (pc' := 130) (v := 1) h dX5_bidByPrice_127 rfl (by decide) (by decide) rfl rfl ?_
          refine r_goto (tgt := 2) h dX5_bidByPrice_130 (by decide) ?_
          refine r_sub (lo' := [(0, _), (1, _), (2, _)]) [0, 1, 2] rfl ?_
          obtain ⟨k9, hk9⟩ : ∃ k9, 24 - j = k9 + 1 := ⟨24 - j - 1, by omega⟩
          have hz : ∃ v, isM G N Sj (sMI Q 0 v) := ⟨_, by have e9 := hj1; first | exact e9 | (rw [sMI_twice] at e9; exact e9)⟩
          obtain ⟨v9, hz⟩ := hz
          refine aw_cast (by simp [nI_1]) (ih (j + 1) (by omega) (by omega) _ v9 hz hr1 ?_)
          rw [← hv, show 24 - (j + 1) = k9 by omega, hk9]
          simp only [qBP]
          first | (simp [c0, c1]; done) | (simp_all; done)
  exact loop (24 + 1) 0 (Nat.zero_le _) (by omega) _ (mI Q 0) (by rw [sMI_self]; exact hQ) GR.rfl' rfl
theorem kX5_hoursToBid {l : Launch} {G : GX} {N : Nat} {S : Nat → va_E} {K : RK} {Q : MM} (hQ : isM G N S Q) {t : Nat} (h4 : mM Q 4 = nI t) (ht2 : t < 2 ^ 30) (hk : ∀ S1, isM G N S1 (qHT Q 0 24).1 → GR S S1 → K (.inl (some (.int (qHT Q 0 24).2))) S1) : RetK l G N mX5_hoursToBid (1, 21, 0, 0) [.ref (ad G 119)] S K := by
  refine ret_enter (by decide +kernel) (Nat.le_of_ble_eq_true rfl) (fun X hX h hm => ?_)
  subst hX
  replace h : OK X G N cX5_hoursToBid RX5 2 (1, 21, 0, 0) := h
  replace hm : OKm X G N K (some .int) (1, 21, 0, 0) := hm
  show AW X G 2 N 0 [(0, _)] [] S 0 0
  refine r_iconst (pc' := 1) (v := 0) h dX5_hoursToBid_0 rfl (by decide) ?_
  refine r_istoren (j := 1) (pc' := 2) h rfl dX5_hoursToBid_1 rfl (by decide) rfl ?_
  have loop : ∀ (n j : Nat), j ≤ 24 → 24 - j < n → ∀ Sj v, isM G N Sj (sMI Q 0 v) → GR S Sj → qHT Q j (24 - j) = qHT Q 0 (24) → AW X G 2 N 2 [(0, .ref (ad G 119)), (1, .int (nI j))] [] Sj 0 0 := by
    intro n
    induction n with
    | zero => intro j h1 h2; exact absurd h2 (by omega)
    | succ n ih =>
      intro j h1 h2 Sj v hj1 hr1 hv
      refine r_iload_n (pc' := 3) h dX5_hoursToBid_2 rfl rfl ?_
      refine r_bipush (pc' := 5) (v := 24) h dX5_hoursToBid_3 rfl (by decide) ?_
      refine r_icmp_ge (tgt := 46) (pc' := 8) h dX5_hoursToBid_5 (by decide) rfl (fun c0 => ?_) (fun c0 => ?_)
      · try simp only [mM_sI, mM_sM] at c0
        have ejj := lp_ge (c := 24) (rfl : (24 : Int32) = nI 24) (by decide) h1 c0
        subst ejj
        refine r_aload_n (pc' := 47) h dX5_hoursToBid_46 rfl rfl ?_
        refine r_iconst (pc' := 48) (v := 1) h dX5_hoursToBid_47 rfl (by decide) ?_
        refine pX5_27 (pc' := 51) h dX5_hoursToBid_48 rfl hj1.l0 hj1.o (Nat.le_of_ble_eq_true rfl) ?_
        refine wM0 hj1 (fun S1 hQ1 hR1 => ?_)
        refine r_iconst (pc' := 52) (v := 0) h dX5_hoursToBid_51 rfl (by decide) ?_
        refine r_ireturn h hm dX5_hoursToBid_52 (Nat.le_of_ble_eq_true rfl) (Nat.le_of_ble_eq_true rfl) ?_
        refine kM hk hQ1 ((hr1).trans hR1) ?_
        rw [← hv, Nat.sub_self]
        simp only [qHT, qR, sMI_twice]
      · try simp only [mM_sI, mM_sM] at c0
        have hjj := lp_lt (c := 24) (rfl : (24 : Int32) = nI 24) (by decide) h1 c0
        have ht : vp_in (mM Q 4 + nI j - (mM Q 4 + nI j) / 24 * 24) 24 := by rw [h4, nI_add, hr_nI (by omega)]; exact nJ_in (Nat.mod_lt _ (by decide)) (by decide)
        refine r_aload_n (pc' := 9) h dX5_hoursToBid_8 rfl rfl ?_
        refine r_aload_n (pc' := 10) h dX5_hoursToBid_9 rfl rfl ?_
        refine r_aload_n (pc' := 11) h dX5_hoursToBid_10 rfl rfl ?_
        refine gX5_9 (pc' := 14) h dX5_hoursToBid_11 rfl hj1.l0 hj1.o rfl ?_
        refine r_iconst (pc' := 15) (v := 4) h dX5_hoursToBid_14 rfl (by decide) ?_
        refine r_ialdk (k0 := 4) (pc' := 16) h dX5_hoursToBid_15 rfl hj1.l1 hj1.r1 (by unfold vp_in; decide) rfl ?_
        refine r_iload_n (pc' := 17) h dX5_hoursToBid_16 rfl rfl ?_
        refine r_iadd (pc' := 18) h dX5_hoursToBid_17 rfl ?_
        refine r_bipush (pc' := 20) (v := 24) h dX5_hoursToBid_18 rfl (by decide) ?_
        refine r_irem (pc' := 21) h dX5_hoursToBid_20 rfl (by decide) ?_
        refine r_callV1 (pc' := 24) (M := mX5_price) h hm dX5_hoursToBid_21 rfl lX5_147 vX5_price rfl hj1.l0 hj1.o (Nat.le_of_ble_eq_true rfl) (rrb rfl) (kX5_price hj1 (ht) ?_)
        show AW X G _ _ _ _ _ _ _ _
        refine r_if_le (tgt := 31) (pc' := 27) h dX5_hoursToBid_24 (by decide) rfl (fun c1 => ?_) (fun c1 => ?_)
        · try simp only [mM_sI, mM_sM] at c1
          refine r_iconst (pc' := 32) (v := 0) h dX5_hoursToBid_31 rfl (by decide) ?_
          refine r_callV1 (pc' := 35) (M := mX5_isFine) h hm dX5_hoursToBid_32 rfl lX5_49 vX5_isFine rfl hj1.l0 hj1.o (Nat.le_of_ble_eq_true rfl) (rrb rfl) (kX5_isFine (b := false) hj1 (fun S2 hQ2 hR2 => ?_))
          show AW X G _ _ _ _ _ _ _ _
          show AW X G _ _ _ _ (.int 0 :: _) _ _ _
          have hQ2 : isM G N S2 (sMI _ 0 1) := hQ2
          refine r_if_eq (tgt := 40) (pc' := 38) h dX5_hoursToBid_35 (by decide) rfl (fun _ => ?_) (fun c => absurd c (by decide))
          refine r_iinc (pc' := 43) (v := 1) h dX5_hoursToBid_40 rfl (by decide) (by decide) rfl rfl ?_
          refine r_goto (tgt := 2) h dX5_hoursToBid_43 (by decide) ?_
          obtain ⟨k9, hk9⟩ : ∃ k9, 24 - j = k9 + 1 := ⟨24 - j - 1, by omega⟩
          have hz : ∃ v, isM G N S2 (sMI Q 0 v) := ⟨_, by have e9 := hQ2; first | exact e9 | (rw [sMI_twice] at e9; exact e9)⟩
          obtain ⟨v9, hz⟩ := hz
          refine aw_cast (by simp [nI_1]) (ih (j + 1) (by omega) (by omega) _ v9 hz ((hr1).trans hR2) ?_)
          rw [← hv, show 24 - (j + 1) = k9 by omega, hk9]
          simp only [qHT]
          first | (simp [c0, c1]; done) | (simp_all; done)
        · try simp only [mM_sI, mM_sM] at c1
          refine r_iconst (pc' := 28) (v := 1) h dX5_hoursToBid_27 rfl (by decide) ?_
          refine r_goto (tgt := 32) h dX5_hoursToBid_28 (by decide) ?_
          refine r_callV1 (pc' := 35) (M := mX5_isFine) h hm dX5_hoursToBid_32 rfl lX5_49 vX5_isFine rfl hj1.l0 hj1.o (Nat.le_of_ble_eq_true rfl) (rrb rfl) (kX5_isFine (b := true) hj1 (fun S3 hQ3 hR3 => ?_))
          show AW X G _ _ _ _ _ _ _ _
          show AW X G _ _ _ _ (.int 1 :: _) _ _ _
          have hQ3 : isM G N S3 (sMI _ 0 0) := hQ3
          refine r_if_eq (tgt := 40) (pc' := 38) h dX5_hoursToBid_35 (by decide) rfl (fun c => absurd c (by decide)) (fun _ => ?_)
          refine r_iload_n (pc' := 39) h dX5_hoursToBid_38 rfl rfl ?_
          refine r_ireturn h hm dX5_hoursToBid_39 (Nat.le_of_ble_eq_true rfl) (Nat.le_of_ble_eq_true rfl) ?_
          refine kM hk hQ3 ((hr1).trans hR3) ?_
          obtain ⟨k9, hk9⟩ : ∃ k9, 24 - j = k9 + 1 := ⟨24 - j - 1, by omega⟩
          rw [← hv, hk9]
          simp only [qHT, qR, sMI_twice]
          first | (simp [c0, c1]; done) | (simp_all; done)
  exact loop (24 + 1) 0 (Nat.zero_le _) (by omega) _ (mI Q 0) (by rw [sMI_self]; exact hQ) GR.rfl' rfl
theorem kX5_turbineByOutput {l : Launch} {G : GX} {N : Nat} {S : Nat → va_E} {K : RK} {Q : MM} (hQ : isM G N S Q) (hw : wM (mM Q)) {x : Int32} (hk : ∀ S1, isM G N S1 (qTP Q x 0 (qN (mM Q))).1 → GR S S1 → K (.inl (some (.int (qTP Q x 0 (qN (mM Q))).2))) S1) : RetK l G N mX5_turbineByOutput (6, 136, 0, 0) [.ref (ad G 119), .int x] S K := by
  refine ret_enter (by decide +kernel) (Nat.le_of_ble_eq_true rfl) (fun X hX h hm => ?_)
  subst hX
  replace h : OK X G N cX5_turbineByOutput RX5 7 (6, 136, 0, 0) := h
  replace hm : OKm X G N K (some .int) (6, 136, 0, 0) := hm
  show AW X G 7 N 0 [(0, _), (1, _)] [] S 0 0
  refine r_iconst (pc' := 1) (v := 0) h dX5_turbineByOutput_0 rfl (by decide) ?_
  refine r_istoren (j := 2) (pc' := 2) h rfl dX5_turbineByOutput_1 rfl (by decide) rfl ?_
  have loop : ∀ (n j : Nat), j ≤ qN (mM Q) → qN (mM Q) - j < n → ∀ Sj v, isM G N Sj (sMI Q 0 v) → GR S Sj → qTP Q x j (qN (mM Q) - j) = qTP Q x 0 (qN (mM Q)) → AW X G 7 N 2 [(0, .ref (ad G 119)), (1, .int x), (2, .int (nI j))] [] Sj 0 0 := by
    intro n
    induction n with
    | zero => intro j h1 h2; exact absurd h2 (by omega)
    | succ n ih =>
      intro j h1 h2 Sj v hj1 hr1 hv
      have hn12 := hw.2
      refine r_iload_n (pc' := 3) h dX5_turbineByOutput_2 rfl rfl ?_
      refine r_aload_n (pc' := 4) h dX5_turbineByOutput_3 rfl rfl ?_
      refine gX5_9 (pc' := 7) h dX5_turbineByOutput_4 rfl hj1.l0 hj1.o rfl ?_
      refine r_iconst (pc' := 8) (v := 0) h dX5_turbineByOutput_7 rfl (by decide) ?_
      refine r_ialdk (k0 := 0) (pc' := 9) h dX5_turbineByOutput_8 rfl hj1.l1 hj1.r1 (by unfold vp_in; decide) rfl ?_
      refine r_icmp_ge (tgt := 123) (pc' := 12) h dX5_turbineByOutput_9 (by decide) rfl (fun c0 => ?_) (fun c0 => ?_)
      · try simp only [mM_sI, mM_sM] at c0
        have ejj := lp_ge (c := qN (mM Q)) hw.1 (by omega) h1 c0
        subst ejj
        refine r_aload_n (pc' := 124) h dX5_turbineByOutput_123 rfl rfl ?_
        refine r_iconst (pc' := 125) (v := 1) h dX5_turbineByOutput_124 rfl (by decide) ?_
        refine pX5_27 (pc' := 128) h dX5_turbineByOutput_125 rfl hj1.l0 hj1.o (Nat.le_of_ble_eq_true rfl) ?_
        refine wM0 hj1 (fun S1 hQ1 hR1 => ?_)
        refine r_iconst (pc' := 129) (v := 0) h dX5_turbineByOutput_128 rfl (by decide) ?_
        refine r_ireturn h hm dX5_turbineByOutput_129 (Nat.le_of_ble_eq_true rfl) (Nat.le_of_ble_eq_true rfl) ?_
        refine kM hk hQ1 ((hr1).trans hR1) ?_
        rw [← hv, Nat.sub_self]
        simp only [qTP, qR, sMI_twice]
      · try simp only [mM_sI, mM_sM] at c0
        have hjj := lp_lt (c := qN (mM Q)) hw.1 (by omega) h1 c0
        have ht : vp_in (nI j) 12 := nJ_in (by omega) (by decide)
        refine r_iconst (pc' := 13) (v := 0) h dX5_turbineByOutput_12 rfl (by decide) ?_
        refine r_istoren (j := 3) (pc' := 14) h rfl dX5_turbineByOutput_13 rfl (by decide) rfl ?_
        refine r_iconst (pc' := 15) (v := 0) h dX5_turbineByOutput_14 rfl (by decide) ?_
        refine r_istore (pc' := 17) h dX5_turbineByOutput_15 rfl (by decide) rfl ?_
        have inner : ∀ (n2 i : Nat), i ≤ qN (mM Q) → qN (mM Q) - i < n2 → AW X G 7 N 17 [(0, .ref (ad G 119)), (1, .int x), (2, .int (nI j)), (3, .int (qTAh (mM Q) (nI j) i)), (4, .int (nI i))] [] Sj 0 0 := by
          intro n2
          induction n2 with
          | zero => intro i h3 h4; exact absurd h4 (by omega)
          | succ n2 ih2 =>
            intro i h3 h4
            refine r_iload (pc' := 19) h dX5_turbineByOutput_17 rfl rfl ?_
            refine r_aload_n (pc' := 20) h dX5_turbineByOutput_19 rfl rfl ?_
            refine gX5_9 (pc' := 23) h dX5_turbineByOutput_20 rfl hj1.l0 hj1.o rfl ?_
            refine r_iconst (pc' := 24) (v := 0) h dX5_turbineByOutput_23 rfl (by decide) ?_
            refine r_ialdk (k0 := 0) (pc' := 25) h dX5_turbineByOutput_24 rfl hj1.l1 hj1.r1 (by unfold vp_in; decide) rfl ?_
            refine r_icmp_ge (tgt := 98) (pc' := 28) h dX5_turbineByOutput_25 (by decide) rfl (fun c1 => ?_) (fun c1 => ?_)
            · try simp only [mM_sI, mM_sM] at c1
              have eji := lp_ge (c := qN (mM Q)) hw.1 (by omega) h3 c1
              subst eji
              refine r_aload_n (pc' := 99) h dX5_turbineByOutput_98 rfl rfl ?_
              refine r_iload_n (pc' := 100) h dX5_turbineByOutput_99 rfl rfl ?_
              refine r_iload_n (pc' := 101) h dX5_turbineByOutput_100 rfl rfl ?_
              refine r_icmp_ne (tgt := 108) (pc' := 104) h dX5_turbineByOutput_101 (by decide) rfl (fun c2 => ?_) (fun c2 => ?_)
              · try simp only [mM_sI, mM_sM] at c2
                refine r_iconst (pc' := 109) (v := 0) h dX5_turbineByOutput_108 rfl (by decide) ?_
                refine r_callV1 (pc' := 112) (M := mX5_isFine) h hm dX5_turbineByOutput_109 rfl lX5_49 vX5_isFine rfl hj1.l0 hj1.o (Nat.le_of_ble_eq_true rfl) (rrb rfl) (kX5_isFine (b := false) hj1 (fun S2 hQ2 hR2 => ?_))
                show AW X G _ _ _ _ _ _ _ _
                show AW X G _ _ _ _ (.int 0 :: _) _ _ _
                have hQ2 : isM G N S2 (sMI _ 0 1) := hQ2
                refine r_if_eq (tgt := 117) (pc' := 115) h dX5_turbineByOutput_112 (by decide) rfl (fun _ => ?_) (fun c => absurd c (by decide))
                refine r_iinc (pc' := 120) (v := 1) h dX5_turbineByOutput_117 rfl (by decide) (by decide) rfl rfl ?_
                refine r_goto (tgt := 2) h dX5_turbineByOutput_120 (by decide) ?_
                refine r_sub (lo' := [(0, _), (1, _), (2, _)]) [0, 1, 2] rfl ?_
                obtain ⟨k9, hk9⟩ : ∃ k9, qN (mM Q) - j = k9 + 1 := ⟨qN (mM Q) - j - 1, by omega⟩
                have hz : ∃ v, isM G N S2 (sMI Q 0 v) := ⟨_, by have e9 := hQ2; first | exact e9 | (rw [sMI_twice] at e9; exact e9)⟩
                obtain ⟨v9, hz⟩ := hz
                refine aw_cast (by simp [nI_1]) (ih (j + 1) (by omega) (by omega) _ v9 hz ((hr1).trans hR2) ?_)
                rw [← hv, show qN (mM Q) - (j + 1) = k9 by omega, hk9]
                simp only [qTP]
                first | (simp [c0, c1, c2]; done) | (simp_all; done)
              · try simp only [mM_sI, mM_sM] at c2
                refine r_iconst (pc' := 105) (v := 1) h dX5_turbineByOutput_104 rfl (by decide) ?_
                refine r_goto (tgt := 109) h dX5_turbineByOutput_105 (by decide) ?_
                refine r_callV1 (pc' := 112) (M := mX5_isFine) h hm dX5_turbineByOutput_109 rfl lX5_49 vX5_isFine rfl hj1.l0 hj1.o (Nat.le_of_ble_eq_true rfl) (rrb rfl) (kX5_isFine (b := true) hj1 (fun S3 hQ3 hR3 => ?_))
                show AW X G _ _ _ _ _ _ _ _
                show AW X G _ _ _ _ (.int 1 :: _) _ _ _
                have hQ3 : isM G N S3 (sMI _ 0 0) := hQ3
                refine r_if_eq (tgt := 117) (pc' := 115) h dX5_turbineByOutput_112 (by decide) rfl (fun c => absurd c (by decide)) (fun _ => ?_)
                refine r_iload_n (pc' := 116) h dX5_turbineByOutput_115 rfl rfl ?_
                refine r_ireturn h hm dX5_turbineByOutput_116 (Nat.le_of_ble_eq_true rfl) (Nat.le_of_ble_eq_true rfl) ?_
                refine kM hk hQ3 ((hr1).trans hR3) ?_
                obtain ⟨k9, hk9⟩ : ∃ k9, qN (mM Q) - j = k9 + 1 := ⟨qN (mM Q) - j - 1, by omega⟩
                rw [← hv, hk9]
                simp only [qTP, qR, sMI_twice]
                first | (simp [c0, c1, c2]; done) | (simp_all; done)
            · try simp only [mM_sI, mM_sM] at c1
              have hji := lp_lt (c := qN (mM Q)) hw.1 (by omega) h3 c1
              have hu : vp_in (nI i) 12 := nJ_in (by omega) (by decide)
              refine r_aload_n (pc' := 29) h dX5_turbineByOutput_28 rfl rfl ?_
              refine r_iload (pc' := 31) h dX5_turbineByOutput_29 rfl rfl ?_
              refine r_callV1 (pc' := 34) (M := mX5_output) h hm dX5_turbineByOutput_31 rfl lX5_77 vX5_output rfl hj1.l0 hj1.o (Nat.le_of_ble_eq_true rfl) (rrb rfl) (kX5_output hj1 hw (hu) ?_)
              show AW X G _ _ _ _ _ _ _ _
              refine r_aload_n (pc' := 35) h dX5_turbineByOutput_34 rfl rfl ?_
              refine r_iload_n (pc' := 36) h dX5_turbineByOutput_35 rfl rfl ?_
              refine r_callV1 (pc' := 39) (M := mX5_output) h hm dX5_turbineByOutput_36 rfl lX5_77 vX5_output rfl hj1.l0 hj1.o (Nat.le_of_ble_eq_true rfl) (rrb rfl) (kX5_output hj1 hw (ht) ?_)
              show AW X G _ _ _ _ _ _ _ _
              refine r_isub (pc' := 40) h dX5_turbineByOutput_39 rfl ?_
              refine r_istore (pc' := 42) h dX5_turbineByOutput_40 rfl (by decide) rfl ?_
              refine r_aload_n (pc' := 43) h dX5_turbineByOutput_42 rfl rfl ?_
              refine r_iload (pc' := 45) h dX5_turbineByOutput_43 rfl rfl ?_
              refine r_iconst (pc' := 46) (v := 2) h dX5_turbineByOutput_45 rfl (by decide) ?_
              refine r_callV2 (pc' := 49) (M := mX5_t) h hm dX5_turbineByOutput_46 rfl lX5_57 vX5_t rfl hj1.l0 hj1.o (Nat.le_of_ble_eq_true rfl) (rrb rfl) (kX5_t hj1 (ix_T (w := 2) (hu) (by decide)) ?_)
              show AW X G _ _ _ _ _ _ _ _
              refine r_aload_n (pc' := 50) h dX5_turbineByOutput_49 rfl rfl ?_
              refine r_iload_n (pc' := 51) h dX5_turbineByOutput_50 rfl rfl ?_
              refine r_iconst (pc' := 52) (v := 2) h dX5_turbineByOutput_51 rfl (by decide) ?_
              refine r_callV2 (pc' := 55) (M := mX5_t) h hm dX5_turbineByOutput_52 rfl lX5_57 vX5_t rfl hj1.l0 hj1.o (Nat.le_of_ble_eq_true rfl) (rrb rfl) (kX5_t hj1 (ix_T (w := 2) (ht) (by decide)) ?_)
              show AW X G _ _ _ _ _ _ _ _
              refine r_isub (pc' := 56) h dX5_turbineByOutput_55 rfl ?_
              refine r_istore (pc' := 58) h dX5_turbineByOutput_56 rfl (by decide) rfl ?_
              refine r_iload_n (pc' := 59) h dX5_turbineByOutput_58 rfl rfl ?_
              refine r_iload (pc' := 61) h dX5_turbineByOutput_59 rfl rfl ?_
              refine r_if_gt (tgt := 85) (pc' := 64) h dX5_turbineByOutput_61 (by decide) rfl (fun c5 => ?_) (fun c5 => ?_)
              · try simp only [mM_sI, mM_sM] at c5
                refine r_iconst (pc' := 86) (v := 1) h dX5_turbineByOutput_85 rfl (by decide) ?_
                refine r_goto (tgt := 90) h dX5_turbineByOutput_86 (by decide) ?_
                refine r_iadd (pc' := 91) h dX5_turbineByOutput_90 rfl ?_
                refine r_istoren (j := 3) (pc' := 92) h rfl dX5_turbineByOutput_91 rfl (by decide) rfl ?_
                refine r_iinc (pc' := 95) (v := 1) h dX5_turbineByOutput_92 rfl (by decide) (by decide) rfl rfl ?_
                refine r_goto (tgt := 17) h dX5_turbineByOutput_95 (by decide) ?_
                refine r_sub (lo' := [(0, _), (1, _), (2, _), (3, _), (4, _)]) [0, 1, 2, 3, 4] rfl ?_
                exact aw_cast (by simp [qTAh, qTA1, b2i, nI_1, c0, c1, c5]) (ih2 (i + 1) (by omega) (by omega))
              · try simp only [mM_sI, mM_sM] at c5
                refine r_iload (pc' := 66) h dX5_turbineByOutput_64 rfl rfl ?_
                refine r_if_ne (tgt := 89) (pc' := 69) h dX5_turbineByOutput_66 (by decide) rfl (fun c6 => ?_) (fun c6 => ?_)
                · try simp only [mM_sI, mM_sM] at c6
                  refine r_iconst (pc' := 90) (v := 0) h dX5_turbineByOutput_89 rfl (by decide) ?_
                  refine r_iadd (pc' := 91) h dX5_turbineByOutput_90 rfl ?_
                  refine r_istoren (j := 3) (pc' := 92) h rfl dX5_turbineByOutput_91 rfl (by decide) rfl ?_
                  refine r_iinc (pc' := 95) (v := 1) h dX5_turbineByOutput_92 rfl (by decide) (by decide) rfl rfl ?_
                  refine r_goto (tgt := 17) h dX5_turbineByOutput_95 (by decide) ?_
                  refine r_sub (lo' := [(0, _), (1, _), (2, _), (3, _), (4, _)]) [0, 1, 2, 3, 4] rfl ?_
                  exact aw_cast (by simp [qTAh, qTA1, b2i, nI_1, c0, c1, c5, c6]) (ih2 (i + 1) (by omega) (by omega))
                · try simp only [mM_sI, mM_sM] at c6
                  refine r_iload (pc' := 71) h dX5_turbineByOutput_69 rfl rfl ?_
                  refine r_if_gt (tgt := 85) (pc' := 74) h dX5_turbineByOutput_71 (by decide) rfl (fun c7 => ?_) (fun c7 => ?_)
                  · try simp only [mM_sI, mM_sM] at c7
                    refine r_iconst (pc' := 86) (v := 1) h dX5_turbineByOutput_85 rfl (by decide) ?_
                    refine r_goto (tgt := 90) h dX5_turbineByOutput_86 (by decide) ?_
                    refine r_iadd (pc' := 91) h dX5_turbineByOutput_90 rfl ?_
                    refine r_istoren (j := 3) (pc' := 92) h rfl dX5_turbineByOutput_91 rfl (by decide) rfl ?_
                    refine r_iinc (pc' := 95) (v := 1) h dX5_turbineByOutput_92 rfl (by decide) (by decide) rfl rfl ?_
                    refine r_goto (tgt := 17) h dX5_turbineByOutput_95 (by decide) ?_
                    refine r_sub (lo' := [(0, _), (1, _), (2, _), (3, _), (4, _)]) [0, 1, 2, 3, 4] rfl ?_
                    exact aw_cast (by simp [qTAh, qTA1, b2i, nI_1, c0, c1, c5, c6, c7]) (ih2 (i + 1) (by omega) (by omega))
                  · try simp only [mM_sI, mM_sM] at c7
                    refine r_iload (pc' := 76) h dX5_turbineByOutput_74 rfl rfl ?_
                    refine r_if_ne (tgt := 89) (pc' := 79) h dX5_turbineByOutput_76 (by decide) rfl (fun c8 => ?_) (fun c8 => ?_)
                    · try simp only [mM_sI, mM_sM] at c8
                      refine r_iconst (pc' := 90) (v := 0) h dX5_turbineByOutput_89 rfl (by decide) ?_
                      refine r_iadd (pc' := 91) h dX5_turbineByOutput_90 rfl ?_
                      refine r_istoren (j := 3) (pc' := 92) h rfl dX5_turbineByOutput_91 rfl (by decide) rfl ?_
                      refine r_iinc (pc' := 95) (v := 1) h dX5_turbineByOutput_92 rfl (by decide) (by decide) rfl rfl ?_
                      refine r_goto (tgt := 17) h dX5_turbineByOutput_95 (by decide) ?_
                      refine r_sub (lo' := [(0, _), (1, _), (2, _), (3, _), (4, _)]) [0, 1, 2, 3, 4] rfl ?_
                      exact aw_cast (by simp [qTAh, qTA1, b2i, nI_1, c0, c1, c5, c6, c7, c8]) (ih2 (i + 1) (by omega) (by omega))
                    · try simp only [mM_sI, mM_sM] at c8
                      refine r_iload (pc' := 81) h dX5_turbineByOutput_79 rfl rfl ?_
                      refine r_iload_n (pc' := 82) h dX5_turbineByOutput_81 rfl rfl ?_
                      refine r_icmp_ge (tgt := 89) (pc' := 85) h dX5_turbineByOutput_82 (by decide) rfl (fun c9 => ?_) (fun c9 => ?_)
                      · try simp only [mM_sI, mM_sM] at c9
                        refine r_iconst (pc' := 90) (v := 0) h dX5_turbineByOutput_89 rfl (by decide) ?_
                        refine r_iadd (pc' := 91) h dX5_turbineByOutput_90 rfl ?_
                        refine r_istoren (j := 3) (pc' := 92) h rfl dX5_turbineByOutput_91 rfl (by decide) rfl ?_
                        refine r_iinc (pc' := 95) (v := 1) h dX5_turbineByOutput_92 rfl (by decide) (by decide) rfl rfl ?_
                        refine r_goto (tgt := 17) h dX5_turbineByOutput_95 (by decide) ?_
                        refine r_sub (lo' := [(0, _), (1, _), (2, _), (3, _), (4, _)]) [0, 1, 2, 3, 4] rfl ?_
                        exact aw_cast (by simp [qTAh, qTA1, b2i, nI_1, c0, c1, c5, c6, c7, c8, c9]) (ih2 (i + 1) (by omega) (by omega))
                      · try simp only [mM_sI, mM_sM] at c9
                        refine r_iconst (pc' := 86) (v := 1) h dX5_turbineByOutput_85 rfl (by decide) ?_
                        refine r_goto (tgt := 90) h dX5_turbineByOutput_86 (by decide) ?_
                        refine r_iadd (pc' := 91) h dX5_turbineByOutput_90 rfl ?_
                        refine r_istoren (j := 3) (pc' := 92) h rfl dX5_turbineByOutput_91 rfl (by decide) rfl ?_
                        refine r_iinc (pc' := 95) (v := 1) h dX5_turbineByOutput_92 rfl (by decide) (by decide) rfl rfl ?_
                        refine r_goto (tgt := 17) h dX5_turbineByOutput_95 (by decide) ?_
                        refine r_sub (lo' := [(0, _), (1, _), (2, _), (3, _), (4, _)]) [0, 1, 2, 3, 4] rfl ?_
                        exact aw_cast (by simp [qTAh, qTA1, b2i, nI_1, c0, c1, c5, c6, c7, c8, c9]) (ih2 (i + 1) (by omega) (by omega))
        exact inner (qN (mM Q) + 1) 0 (Nat.zero_le _) (by omega)
  exact loop (qN (mM Q) + 1) 0 (Nat.zero_le _) (by omega) _ (mI Q 0) (by rw [sMI_self]; exact hQ) GR.rfl' rfl
theorem kX5_incomeWithin {l : Launch} {G : GX} {N : Nat} {S : Nat → va_E} {K : RK} {Q : MM} (hQ : isM G N S Q) (hw : wM (mM Q)) {t : Nat} (h4x : mM Q 4 = nI t) (ht2 : t < 2 ^ 30) {x : Int32} (hk : ∀ S1, isM G N S1 (qInc Q x).1 → GR S S1 → K (.inl (some (.int (qInc Q x).2))) S1) : RetK l G N mX5_incomeWithin (8, 185, 0, 0) [.ref (ad G 119), .int x] S K := by
  refine ret_enter (by decide +kernel) (Nat.le_of_ble_eq_true rfl) (fun X hX h hm => ?_)
  subst hX
  replace h : OK X G N cX5_incomeWithin RX5 3 (8, 185, 0, 0) := h
  replace hm : OKm X G N K (some .int) (8, 185, 0, 0) := hm
  show AW X G 3 N 0 [(0, _), (1, _)] [] S 0 0
  refine r_aload_n (pc' := 1) h dX5_incomeWithin_0 rfl rfl ?_
  refine r_iload_n (pc' := 2) h dX5_incomeWithin_1 rfl rfl ?_
  refine r_iconst (pc' := 3) (v := 1) h dX5_incomeWithin_2 rfl (by decide) ?_
  refine r_bipush (pc' := 5) (v := 48) h dX5_incomeWithin_3 rfl (by decide) ?_
  refine r_callS3 (pc' := 8) (M := mX5_in) h hm dX5_incomeWithin_5 rfl lX5_53 vX5_in (Nat.le_of_ble_eq_true rfl) (rrb rfl) (kX5_in ?_)
  show AW X G _ _ _ _ _ _ _ _
  refine r_callV1 (pc' := 11) (M := mX5_isFine) h hm dX5_incomeWithin_8 rfl lX5_49 vX5_isFine rfl hQ.l0 hQ.o (Nat.le_of_ble_eq_true rfl) (rrb rfl) (kX5_isFine hQ (fun S1 hQ1 hR1 => ?_))
  show AW X G _ _ _ _ _ _ _ _
  refine r_if_neb (tgt := 16) (pc' := 14) h dX5_incomeWithin_11 (by decide) rfl (fun c0 => ?_) (fun c0 => ?_)
  · try simp only [mM_sI, mM_sM] at c0
    have hin0 := c0
    obtain ⟨k, hk9, rfl⟩ : ∃ k : Nat, k < 49 ∧ x = nI k := vp_in_of (wIn_in1 hin0) (by decide)
    have hQ1 : isM G N S1 (sMI Q 0 0) := (congrArg (fun q => isM G N S1 (sMI Q 0 q)) (if_pos hin0)).mp hQ1
    have hwx : wM (cpM (mM Q) 0 11) := wM_of hw (by unfold cpM; rw [if_neg (by omega)])
    have h4 : cpM (mM Q) 0 11 4 = nI t := by unfold cpM; rw [if_neg (by omega)]; exact h4x
    refine r_aload_n (pc' := 17) h dX5_incomeWithin_16 rfl rfl ?_
    refine r_iconst (pc' := 18) (v := 0) h dX5_incomeWithin_17 rfl (by decide) ?_
    refine r_bipush (pc' := 20) (v := 11) h dX5_incomeWithin_18 rfl (by decide) ?_
    refine r_callV2 (pc' := 23) (M := mX5_copies) h hm dX5_incomeWithin_20 rfl lX5_30 vX5_copies rfl hQ1.l0 hQ1.o (Nat.le_of_ble_eq_true rfl) (rrb rfl) (kX5_copies (f := 0) (t := 11) hQ1 (by decide) (by decide) (by decide) (fun S2 hQ2 hR2 => ?_))
    show AW X G _ _ _ _ _ _ _ _
    refine r_iconst (pc' := 24) (v := 0) h dX5_incomeWithin_23 rfl (by decide) ?_
    refine r_istoren (j := 2) (pc' := 25) h rfl dX5_incomeWithin_24 rfl (by decide) rfl ?_
    have loop : ∀ (n j : Nat), j ≤ k → k - j < n → ∀ Sj, isM G N Sj (sMM (sMI Q 0 0) (qPas (cpM (mM Q) 0 11) j)) → GR S Sj → AW X G 3 N 25 [(0, .ref (ad G 119)), (1, .int (nI k)), (2, .int (nI j))] [] Sj 0 0 := by
      intro n
      induction n with
      | zero => intro j h1 h2; exact absurd h2 (by omega)
      | succ n ih =>
        intro j h1 h2 Sj hj1 hr1
        have hwj : wM (qPas (cpM (mM Q) 0 11) j) := wM_of hwx (qPas_0 hwx j)
        have hhj : vp_in (qHr (qPas (cpM (mM Q) 0 11) j)) 24 := by rw [qHr, qPas_4 j t h4, hr_nI (by omega)]; exact nJ_in (Nat.mod_lt _ (by decide)) (by decide)
        refine r_iload_n (pc' := 26) h dX5_incomeWithin_25 rfl rfl ?_
        refine r_iload_n (pc' := 27) h dX5_incomeWithin_26 rfl rfl ?_
        refine r_icmp_ge (tgt := 40) (pc' := 30) h dX5_incomeWithin_27 (by decide) rfl (fun c1 => ?_) (fun c1 => ?_)
        · try simp only [mM_sI, mM_sM] at c1
          have ej := lp_ge (c := k) rfl (by omega) h1 c1
          subst ej
          refine r_aload_n (pc' := 41) h dX5_incomeWithin_40 rfl rfl ?_
          refine gX5_9 (pc' := 44) h dX5_incomeWithin_41 rfl hj1.l0 hj1.o rfl ?_
          refine r_bipush (pc' := 46) (v := 8) h dX5_incomeWithin_44 rfl (by decide) ?_
          refine r_ialdk (k0 := 8) (pc' := 47) h dX5_incomeWithin_46 rfl hj1.l1 hj1.r1 (by unfold vp_in; decide) rfl ?_
          refine r_aload_n (pc' := 48) h dX5_incomeWithin_47 rfl rfl ?_
          refine gX5_9 (pc' := 51) h dX5_incomeWithin_48 rfl hj1.l0 hj1.o rfl ?_
          refine r_sipush (pc' := 54) (v := 1427) h dX5_incomeWithin_51 rfl (by decide) ?_
          refine r_ialdk (k0 := 1427) (pc' := 55) h dX5_incomeWithin_54 rfl hj1.l1 hj1.r1 (by unfold vp_in; decide) rfl ?_
          refine r_isub (pc' := 56) h dX5_incomeWithin_55 rfl ?_
          refine r_istoren (j := 2) (pc' := 57) h rfl dX5_incomeWithin_56 rfl (by decide) rfl ?_
          refine r_aload_n (pc' := 58) h dX5_incomeWithin_57 rfl rfl ?_
          refine r_bipush (pc' := 60) (v := 11) h dX5_incomeWithin_58 rfl (by decide) ?_
          refine r_iconst (pc' := 61) (v := 0) h dX5_incomeWithin_60 rfl (by decide) ?_
          refine r_callV2 (pc' := 64) (M := mX5_copies) h hm dX5_incomeWithin_61 rfl lX5_30 vX5_copies rfl hj1.l0 hj1.o (Nat.le_of_ble_eq_true rfl) (rrb rfl) (kX5_copies (f := 11) (t := 0) hj1 (by decide) (by decide) (by decide) (fun S3 hQ3 hR3 => ?_))
          show AW X G _ _ _ _ _ _ _ _
          refine r_iload_n (pc' := 65) h dX5_incomeWithin_64 rfl rfl ?_
          refine r_ireturn h hm dX5_incomeWithin_65 (Nat.le_of_ble_eq_true rfl) (Nat.le_of_ble_eq_true rfl) ?_
          refine kM hk hQ3 ((hr1).trans hR3) ?_
          rw [qInc, if_pos hin0, nI_clamp (by omega)]
          rfl
        · try simp only [mM_sI, mM_sM] at c1
          have hj := lp_lt (c := k) rfl (by omega) h1 c1
          refine r_aload_n (pc' := 31) h dX5_incomeWithin_30 rfl rfl ?_
          refine r_callV0 (pc' := 34) (M := mX5_passes) h hm dX5_incomeWithin_31 rfl lX5_165 vX5_passes rfl hj1.l0 hj1.o (Nat.le_of_ble_eq_true rfl) (rrb rfl) (kX5_passes hj1 (hwj) hhj (fun S4 hQ4 hR4 => ?_))
          show AW X G _ _ _ _ _ _ _ _
          refine r_iinc (pc' := 37) (v := 1) h dX5_incomeWithin_34 rfl (by decide) (by decide) rfl rfl ?_
          refine r_goto (tgt := 25) h dX5_incomeWithin_37 (by decide) ?_
          have hz : isM G N S4 (sMM (sMI Q 0 0) (qPas (cpM (mM Q) 0 11) (j + 1))) := by rw [qPas]; exact hQ4
          exact aw_cast (by simp [nI_1]) (ih (j + 1) (by omega) (by omega) _ hz ((hr1).trans hR4))
    exact loop (k + 1) 0 (Nat.zero_le _) (by omega) _ hQ2 ((hR1).trans hR2)
  · try simp only [mM_sI, mM_sM] at c0
    refine r_iconst (pc' := 15) (v := 0) h dX5_incomeWithin_14 rfl (by decide) ?_
    refine r_ireturn h hm dX5_incomeWithin_15 (Nat.le_of_ble_eq_true rfl) (Nat.le_of_ble_eq_true rfl) ?_
    refine kM hk hQ1 hR1 ?_
    rw [qInc]
    simp [c0]
theorem kX5_energyMade {l : Launch} {G : GX} {N : Nat} {S : Nat → va_E} {K : RK} {Q : MM} (hQ : isM G N S Q) (hk : ∀ S1, isM G N S1 (sMI Q 0 0) → GR S S1 → K (.inl (some (.long (mM Q 5).toInt64))) S1) : RetK l G N mX5_energyMade (0, 0, 0, 0) [.ref (ad G 119)] S K := by
  refine ret_enter (by decide +kernel) (Nat.le_of_ble_eq_true rfl) (fun X hX h hm => ?_)
  subst hX
  replace h : OK X G N cX5_energyMade RX5 1 (0, 0, 0, 0) := h
  replace hm : OKm X G N K (some .long) (0, 0, 0, 0) := hm
  show AW X G 1 N 0 [(0, _)] [] S 0 0
  refine r_aload_n (pc' := 1) h dX5_energyMade_0 rfl rfl ?_
  refine r_iconst (pc' := 2) (v := 0) h dX5_energyMade_1 rfl (by decide) ?_
  refine pX5_27 (pc' := 5) h dX5_energyMade_2 rfl hQ.l0 hQ.o (Nat.le_of_ble_eq_true rfl) ?_
  refine wM0 hQ (fun S1 hQ1 hR1 => ?_)
  refine r_aload_n (pc' := 6) h dX5_energyMade_5 rfl rfl ?_
  refine gX5_9 (pc' := 9) h dX5_energyMade_6 rfl hQ1.l0 hQ1.o rfl ?_
  refine r_iconst (pc' := 10) (v := 5) h dX5_energyMade_9 rfl (by decide) ?_
  refine r_ialdk (k0 := 5) (pc' := 11) h dX5_energyMade_10 rfl hQ1.l1 hQ1.r1 (by unfold vp_in; decide) rfl ?_
  refine r_i2l (pc' := 12) h dX5_energyMade_11 rfl ?_
  refine r_lreturn h hm dX5_energyMade_12 (Nat.le_of_ble_eq_true rfl) (Nat.le_of_ble_eq_true rfl) ?_
  exact hk _ hQ1 hR1
theorem kX5_energyLost {l : Launch} {G : GX} {N : Nat} {S : Nat → va_E} {K : RK} {Q : MM} (hQ : isM G N S Q) (hk : ∀ S1, isM G N S1 (sMI Q 0 0) → GR S S1 → K (.inl (some (.long (mM Q 6).toInt64))) S1) : RetK l G N mX5_energyLost (0, 0, 0, 0) [.ref (ad G 119)] S K := by
  refine ret_enter (by decide +kernel) (Nat.le_of_ble_eq_true rfl) (fun X hX h hm => ?_)
  subst hX
  replace h : OK X G N cX5_energyLost RX5 1 (0, 0, 0, 0) := h
  replace hm : OKm X G N K (some .long) (0, 0, 0, 0) := hm
  show AW X G 1 N 0 [(0, _)] [] S 0 0
  refine r_aload_n (pc' := 1) h dX5_energyLost_0 rfl rfl ?_
  refine r_iconst (pc' := 2) (v := 0) h dX5_energyLost_1 rfl (by decide) ?_
  refine pX5_27 (pc' := 5) h dX5_energyLost_2 rfl hQ.l0 hQ.o (Nat.le_of_ble_eq_true rfl) ?_
  refine wM0 hQ (fun S1 hQ1 hR1 => ?_)
  refine r_aload_n (pc' := 6) h dX5_energyLost_5 rfl rfl ?_
  refine gX5_9 (pc' := 9) h dX5_energyLost_6 rfl hQ1.l0 hQ1.o rfl ?_
  refine r_bipush (pc' := 11) (v := 6) h dX5_energyLost_9 rfl (by decide) ?_
  refine r_ialdk (k0 := 6) (pc' := 12) h dX5_energyLost_11 rfl hQ1.l1 hQ1.r1 (by unfold vp_in; decide) rfl ?_
  refine r_i2l (pc' := 13) h dX5_energyLost_12 rfl ?_
  refine r_lreturn h hm dX5_energyLost_13 (Nat.le_of_ble_eq_true rfl) (Nat.le_of_ble_eq_true rfl) ?_
  exact hk _ hQ1 hR1
theorem kX5_energySold {l : Launch} {G : GX} {N : Nat} {S : Nat → va_E} {K : RK} {Q : MM} (hQ : isM G N S Q) (hk : ∀ S1, isM G N S1 (sMI Q 0 0) → GR S S1 → K (.inl (some (.long (mM Q 7).toInt64))) S1) : RetK l G N mX5_energySold (0, 0, 0, 0) [.ref (ad G 119)] S K := by
  refine ret_enter (by decide +kernel) (Nat.le_of_ble_eq_true rfl) (fun X hX h hm => ?_)
  subst hX
  replace h : OK X G N cX5_energySold RX5 1 (0, 0, 0, 0) := h
  replace hm : OKm X G N K (some .long) (0, 0, 0, 0) := hm
  show AW X G 1 N 0 [(0, _)] [] S 0 0
  refine r_aload_n (pc' := 1) h dX5_energySold_0 rfl rfl ?_
  refine r_iconst (pc' := 2) (v := 0) h dX5_energySold_1 rfl (by decide) ?_
  refine pX5_27 (pc' := 5) h dX5_energySold_2 rfl hQ.l0 hQ.o (Nat.le_of_ble_eq_true rfl) ?_
  refine wM0 hQ (fun S1 hQ1 hR1 => ?_)
  refine r_aload_n (pc' := 6) h dX5_energySold_5 rfl rfl ?_
  refine gX5_9 (pc' := 9) h dX5_energySold_6 rfl hQ1.l0 hQ1.o rfl ?_
  refine r_bipush (pc' := 11) (v := 7) h dX5_energySold_9 rfl (by decide) ?_
  refine r_ialdk (k0 := 7) (pc' := 12) h dX5_energySold_11 rfl hQ1.l1 hQ1.r1 (by unfold vp_in; decide) rfl ?_
  refine r_i2l (pc' := 13) h dX5_energySold_12 rfl ?_
  refine r_lreturn h hm dX5_energySold_13 (Nat.le_of_ble_eq_true rfl) (Nat.le_of_ble_eq_true rfl) ?_
  exact hk _ hQ1 hR1
theorem kX5_energySpilled {l : Launch} {G : GX} {N : Nat} {S : Nat → va_E} {K : RK} {Q : MM} (hQ : isM G N S Q) (hk : ∀ S1, isM G N S1 (sMI Q 0 0) → GR S S1 → K (.inl (some (.long (mM Q 5 - mM Q 6 - mM Q 7).toInt64))) S1) : RetK l G N mX5_energySpilled (0, 0, 0, 0) [.ref (ad G 119)] S K := by
  refine ret_enter (by decide +kernel) (Nat.le_of_ble_eq_true rfl) (fun X hX h hm => ?_)
  subst hX
  replace h : OK X G N cX5_energySpilled RX5 1 (0, 0, 0, 0) := h
  replace hm : OKm X G N K (some .long) (0, 0, 0, 0) := hm
  show AW X G 1 N 0 [(0, _)] [] S 0 0
  refine r_aload_n (pc' := 1) h dX5_energySpilled_0 rfl rfl ?_
  refine r_iconst (pc' := 2) (v := 0) h dX5_energySpilled_1 rfl (by decide) ?_
  refine pX5_27 (pc' := 5) h dX5_energySpilled_2 rfl hQ.l0 hQ.o (Nat.le_of_ble_eq_true rfl) ?_
  refine wM0 hQ (fun S1 hQ1 hR1 => ?_)
  refine r_aload_n (pc' := 6) h dX5_energySpilled_5 rfl rfl ?_
  refine gX5_9 (pc' := 9) h dX5_energySpilled_6 rfl hQ1.l0 hQ1.o rfl ?_
  refine r_iconst (pc' := 10) (v := 5) h dX5_energySpilled_9 rfl (by decide) ?_
  refine r_ialdk (k0 := 5) (pc' := 11) h dX5_energySpilled_10 rfl hQ1.l1 hQ1.r1 (by unfold vp_in; decide) rfl ?_
  refine r_aload_n (pc' := 12) h dX5_energySpilled_11 rfl rfl ?_
  refine gX5_9 (pc' := 15) h dX5_energySpilled_12 rfl hQ1.l0 hQ1.o rfl ?_
  refine r_bipush (pc' := 17) (v := 6) h dX5_energySpilled_15 rfl (by decide) ?_
  refine r_ialdk (k0 := 6) (pc' := 18) h dX5_energySpilled_17 rfl hQ1.l1 hQ1.r1 (by unfold vp_in; decide) rfl ?_
  refine r_isub (pc' := 19) h dX5_energySpilled_18 rfl ?_
  refine r_aload_n (pc' := 20) h dX5_energySpilled_19 rfl rfl ?_
  refine gX5_9 (pc' := 23) h dX5_energySpilled_20 rfl hQ1.l0 hQ1.o rfl ?_
  refine r_bipush (pc' := 25) (v := 7) h dX5_energySpilled_23 rfl (by decide) ?_
  refine r_ialdk (k0 := 7) (pc' := 26) h dX5_energySpilled_25 rfl hQ1.l1 hQ1.r1 (by unfold vp_in; decide) rfl ?_
  refine r_isub (pc' := 27) h dX5_energySpilled_26 rfl ?_
  refine r_i2l (pc' := 28) h dX5_energySpilled_27 rfl ?_
  refine r_lreturn h hm dX5_energySpilled_28 (Nat.le_of_ble_eq_true rfl) (Nat.le_of_ble_eq_true rfl) ?_
  exact hk _ hQ1 hR1
theorem kX5_coins {l : Launch} {G : GX} {N : Nat} {S : Nat → va_E} {K : RK} {Q : MM} (hQ : isM G N S Q) (hk : ∀ S1, isM G N S1 (sMI Q 0 0) → GR S S1 → K (.inl (some (.long (mM Q 8).toInt64))) S1) : RetK l G N mX5_coins (0, 0, 0, 0) [.ref (ad G 119)] S K := by
  refine ret_enter (by decide +kernel) (Nat.le_of_ble_eq_true rfl) (fun X hX h hm => ?_)
  subst hX
  replace h : OK X G N cX5_coins RX5 1 (0, 0, 0, 0) := h
  replace hm : OKm X G N K (some .long) (0, 0, 0, 0) := hm
  show AW X G 1 N 0 [(0, _)] [] S 0 0
  refine r_aload_n (pc' := 1) h dX5_coins_0 rfl rfl ?_
  refine r_iconst (pc' := 2) (v := 0) h dX5_coins_1 rfl (by decide) ?_
  refine pX5_27 (pc' := 5) h dX5_coins_2 rfl hQ.l0 hQ.o (Nat.le_of_ble_eq_true rfl) ?_
  refine wM0 hQ (fun S1 hQ1 hR1 => ?_)
  refine r_aload_n (pc' := 6) h dX5_coins_5 rfl rfl ?_
  refine gX5_9 (pc' := 9) h dX5_coins_6 rfl hQ1.l0 hQ1.o rfl ?_
  refine r_bipush (pc' := 11) (v := 8) h dX5_coins_9 rfl (by decide) ?_
  refine r_ialdk (k0 := 8) (pc' := 12) h dX5_coins_11 rfl hQ1.l1 hQ1.r1 (by unfold vp_in; decide) rfl ?_
  refine r_i2l (pc' := 13) h dX5_coins_12 rfl ?_
  refine r_lreturn h hm dX5_coins_13 (Nat.le_of_ble_eq_true rfl) (Nat.le_of_ble_eq_true rfl) ?_
  exact hk _ hQ1 hR1
theorem kX5_meanOutput {l : Launch} {G : GX} {N : Nat} {S : Nat → va_E} {K : RK} {Q : MM} (hQ : isM G N S Q) (hw : wM (mM Q)) (hn : ¬ mM Q 0 ≤ 0 → vf_n64 (FP.ddiv (FP.i2d (qTo (mM Q) (qN (mM Q)))) (FP.i2d (mM Q 0)))) (hk : ∀ S1, isM G N S1 (sMI Q 0 (if mM Q 0 ≤ 0 then 1 else 0)) → GR S S1 → K (.inl (some (.double (if mM Q 0 ≤ 0 then FP.dconst0 else FP.ddiv (FP.i2d (qTo (mM Q) (qN (mM Q)))) (FP.i2d (mM Q 0)))))) S1) : RetK l G N mX5_meanOutput (7, 158, 0, 0) [.ref (ad G 119)] S K := by
  refine ret_enter (by decide +kernel) (Nat.le_of_ble_eq_true rfl) (fun X hX h hm => ?_)
  subst hX
  replace h : OK X G N cX5_meanOutput RX5 1 (7, 158, 0, 0) := h
  replace hm : OKm X G N K (some .double) (7, 158, 0, 0) := hm
  show AW X G 1 N 0 [(0, _)] [] S 0 0
  refine r_aload_n (pc' := 1) h dX5_meanOutput_0 rfl rfl ?_
  refine r_aload_n (pc' := 2) h dX5_meanOutput_1 rfl rfl ?_
  refine gX5_9 (pc' := 5) h dX5_meanOutput_2 rfl hQ.l0 hQ.o rfl ?_
  refine r_iconst (pc' := 6) (v := 0) h dX5_meanOutput_5 rfl (by decide) ?_
  refine r_ialdk (k0 := 0) (pc' := 7) h dX5_meanOutput_6 rfl hQ.l1 hQ.r1 (by unfold vp_in; decide) rfl ?_
  refine r_if_le (tgt := 14) (pc' := 10) h dX5_meanOutput_7 (by decide) rfl (fun c0 => ?_) (fun c0 => ?_)
  · try simp only [mM_sI, mM_sM] at c0
    refine r_iconst (pc' := 15) (v := 0) h dX5_meanOutput_14 rfl (by decide) ?_
    refine r_callV1 (pc' := 18) (M := mX5_isFine) h hm dX5_meanOutput_15 rfl lX5_49 vX5_isFine rfl hQ.l0 hQ.o (Nat.le_of_ble_eq_true rfl) (rrb rfl) (kX5_isFine (b := false) hQ (fun S1 hQ1 hR1 => ?_))
    show AW X G _ _ _ _ _ _ _ _
    show AW X G _ _ _ _ (.int 0 :: _) _ _ _
    have hQ1 : isM G N S1 (sMI _ 0 1) := hQ1
    refine r_if_eq (tgt := 37) (pc' := 21) h dX5_meanOutput_18 (by decide) rfl (fun _ => ?_) (fun c => absurd c (by decide))
    refine r_dconst0 (pc' := 38) h dX5_meanOutput_37 rfl ?_
    refine r_dreturn h hm dX5_meanOutput_38 (Nat.le_of_ble_eq_true rfl) (Nat.le_of_ble_eq_true rfl) ?_
    simp only [c0, if_true, if_false] at hk
    exact hk _ hQ1 hR1
  · try simp only [mM_sI, mM_sM] at c0
    refine r_iconst (pc' := 11) (v := 1) h dX5_meanOutput_10 rfl (by decide) ?_
    refine r_goto (tgt := 15) h dX5_meanOutput_11 (by decide) ?_
    refine r_callV1 (pc' := 18) (M := mX5_isFine) h hm dX5_meanOutput_15 rfl lX5_49 vX5_isFine rfl hQ.l0 hQ.o (Nat.le_of_ble_eq_true rfl) (rrb rfl) (kX5_isFine (b := true) hQ (fun S2 hQ2 hR2 => ?_))
    show AW X G _ _ _ _ _ _ _ _
    show AW X G _ _ _ _ (.int 1 :: _) _ _ _
    have hQ2 : isM G N S2 (sMI _ 0 0) := hQ2
    refine r_if_eq (tgt := 37) (pc' := 21) h dX5_meanOutput_18 (by decide) rfl (fun c => absurd c (by decide)) (fun _ => ?_)
    refine r_aload_n (pc' := 22) h dX5_meanOutput_21 rfl rfl ?_
    refine r_callV0 (pc' := 25) (M := mX5_total) h hm dX5_meanOutput_22 rfl lX5_129 vX5_total rfl hQ2.l0 hQ2.o (Nat.le_of_ble_eq_true rfl) (rrb rfl) (kX5_total hQ2 hw ?_)
    show AW X G _ _ _ _ _ _ _ _
    refine r_i2d (pc' := 26) h dX5_meanOutput_25 rfl ?_
    refine r_aload_n (pc' := 27) h dX5_meanOutput_26 rfl rfl ?_
    refine gX5_9 (pc' := 30) h dX5_meanOutput_27 rfl hQ2.l0 hQ2.o rfl ?_
    refine r_iconst (pc' := 31) (v := 0) h dX5_meanOutput_30 rfl (by decide) ?_
    refine r_ialdk (k0 := 0) (pc' := 32) h dX5_meanOutput_31 rfl hQ2.l1 hQ2.r1 (by unfold vp_in; decide) rfl ?_
    refine r_i2d (pc' := 33) h dX5_meanOutput_32 rfl ?_
    refine r_ddiv (pc' := 34) h dX5_meanOutput_33 rfl (hn c0) ?_
    refine r_goto (tgt := 38) h dX5_meanOutput_34 (by decide) ?_
    refine r_dreturn h hm dX5_meanOutput_38 (Nat.le_of_ble_eq_true rfl) (Nat.le_of_ble_eq_true rfl) ?_
    simp only [c0, if_true, if_false] at hk
    exact hk _ hQ2 hR2
theorem kX5_runningShare {l : Launch} {G : GX} {N : Nat} {S : Nat → va_E} {K : RK} {Q : MM} (hQ : isM G N S Q) (hw : wM (mM Q)) (hn : ¬ mM Q 0 ≤ 0 → vf_n32 (FP.fdiv (FP.i2f (qIS (mM Q) 0 (qN (mM Q)))) (FP.i2f (mM Q 0)))) (hk : ∀ S1, isM G N S1 (sMI Q 0 (if mM Q 0 ≤ 0 then 1 else 0)) → GR S S1 → K (.inl (some (.float (if mM Q 0 ≤ 0 then FP.fconst0 else FP.fdiv (FP.i2f (qIS (mM Q) 0 (qN (mM Q)))) (FP.i2f (mM Q 0)))))) S1) : RetK l G N mX5_runningShare (2, 45, 0, 0) [.ref (ad G 119)] S K := by
  refine ret_enter (by decide +kernel) (Nat.le_of_ble_eq_true rfl) (fun X hX h hm => ?_)
  subst hX
  replace h : OK X G N cX5_runningShare RX5 1 (2, 45, 0, 0) := h
  replace hm : OKm X G N K (some .float) (2, 45, 0, 0) := hm
  show AW X G 1 N 0 [(0, _)] [] S 0 0
  refine r_aload_n (pc' := 1) h dX5_runningShare_0 rfl rfl ?_
  refine r_aload_n (pc' := 2) h dX5_runningShare_1 rfl rfl ?_
  refine gX5_9 (pc' := 5) h dX5_runningShare_2 rfl hQ.l0 hQ.o rfl ?_
  refine r_iconst (pc' := 6) (v := 0) h dX5_runningShare_5 rfl (by decide) ?_
  refine r_ialdk (k0 := 0) (pc' := 7) h dX5_runningShare_6 rfl hQ.l1 hQ.r1 (by unfold vp_in; decide) rfl ?_
  refine r_if_le (tgt := 14) (pc' := 10) h dX5_runningShare_7 (by decide) rfl (fun c0 => ?_) (fun c0 => ?_)
  · try simp only [mM_sI, mM_sM] at c0
    refine r_iconst (pc' := 15) (v := 0) h dX5_runningShare_14 rfl (by decide) ?_
    refine r_callV1 (pc' := 18) (M := mX5_isFine) h hm dX5_runningShare_15 rfl lX5_49 vX5_isFine rfl hQ.l0 hQ.o (Nat.le_of_ble_eq_true rfl) (rrb rfl) (kX5_isFine (b := false) hQ (fun S1 hQ1 hR1 => ?_))
    show AW X G _ _ _ _ _ _ _ _
    show AW X G _ _ _ _ (.int 0 :: _) _ _ _
    have hQ1 : isM G N S1 (sMI _ 0 1) := hQ1
    refine r_if_eq (tgt := 38) (pc' := 21) h dX5_runningShare_18 (by decide) rfl (fun _ => ?_) (fun c => absurd c (by decide))
    refine r_fconst0 (pc' := 39) h dX5_runningShare_38 rfl ?_
    refine r_freturn h hm dX5_runningShare_39 (Nat.le_of_ble_eq_true rfl) (Nat.le_of_ble_eq_true rfl) ?_
    simp only [c0, if_true, if_false] at hk
    exact hk _ hQ1 hR1
  · try simp only [mM_sI, mM_sM] at c0
    refine r_iconst (pc' := 11) (v := 1) h dX5_runningShare_10 rfl (by decide) ?_
    refine r_goto (tgt := 15) h dX5_runningShare_11 (by decide) ?_
    refine r_callV1 (pc' := 18) (M := mX5_isFine) h hm dX5_runningShare_15 rfl lX5_49 vX5_isFine rfl hQ.l0 hQ.o (Nat.le_of_ble_eq_true rfl) (rrb rfl) (kX5_isFine (b := true) hQ (fun S2 hQ2 hR2 => ?_))
    show AW X G _ _ _ _ _ _ _ _
    show AW X G _ _ _ _ (.int 1 :: _) _ _ _
    have hQ2 : isM G N S2 (sMI _ 0 0) := hQ2
    refine r_if_eq (tgt := 38) (pc' := 21) h dX5_runningShare_18 (by decide) rfl (fun c => absurd c (by decide)) (fun _ => ?_)
    refine r_aload_n (pc' := 22) h dX5_runningShare_21 rfl rfl ?_
    refine r_iconst (pc' := 23) (v := 0) h dX5_runningShare_22 rfl (by decide) ?_
    refine r_callV1 (pc' := 26) (M := mX5_inState) h hm dX5_runningShare_23 rfl lX5_107 vX5_inState rfl hQ2.l0 hQ2.o (Nat.le_of_ble_eq_true rfl) (rrb rfl) (kX5_inState hQ2 hw ?_)
    show AW X G _ _ _ _ _ _ _ _
    refine r_i2f (pc' := 27) h dX5_runningShare_26 rfl ?_
    refine r_aload_n (pc' := 28) h dX5_runningShare_27 rfl rfl ?_
    refine gX5_9 (pc' := 31) h dX5_runningShare_28 rfl hQ2.l0 hQ2.o rfl ?_
    refine r_iconst (pc' := 32) (v := 0) h dX5_runningShare_31 rfl (by decide) ?_
    refine r_ialdk (k0 := 0) (pc' := 33) h dX5_runningShare_32 rfl hQ2.l1 hQ2.r1 (by unfold vp_in; decide) rfl ?_
    refine r_i2f (pc' := 34) h dX5_runningShare_33 rfl ?_
    refine r_fdiv (pc' := 35) h dX5_runningShare_34 rfl (hn c0) ?_
    refine r_goto (tgt := 39) h dX5_runningShare_35 (by decide) ?_
    refine r_freturn h hm dX5_runningShare_39 (Nat.le_of_ble_eq_true rfl) (Nat.le_of_ble_eq_true rfl) ?_
    simp only [c0, if_true, if_false] at hk
    exact hk _ hQ2 hR2
theorem kX5_rejectionReason {l : Launch} {G : GX} {N : Nat} {S : Nat → va_E} {K : RK} {Q : MM} (hQ : isM G N S Q) (hk : ∀ S1, isM G N S1 (qNz Q (mI Q 5) (mI Q 5)).1 → GR S S1 → K (.inl (some (.int (qNz Q (mI Q 5) (mI Q 5)).2))) S1) : RetK l G N mX5_rejectionReason (1, 21, 0, 0) [.ref (ad G 119)] S K := by
  refine ret_enter (by decide +kernel) (Nat.le_of_ble_eq_true rfl) (fun X hX h hm => ?_)
  subst hX
  replace h : OK X G N cX5_rejectionReason RX5 1 (1, 21, 0, 0) := h
  replace hm : OKm X G N K (some .int) (1, 21, 0, 0) := hm
  show AW X G 1 N 0 [(0, _)] [] S 0 0
  refine r_aload_n (pc' := 1) h dX5_rejectionReason_0 rfl rfl ?_
  refine r_aload_n (pc' := 2) h dX5_rejectionReason_1 rfl rfl ?_
  refine gX5_40 (pc' := 5) h dX5_rejectionReason_2 rfl hQ.l0 hQ.o rfl ?_
  refine r_if_eq (tgt := 12) (pc' := 8) h dX5_rejectionReason_5 (by decide) rfl (fun c0 => ?_) (fun c0 => ?_)
  · try simp only [mM_sI, mM_sM] at c0
    refine r_iconst (pc' := 13) (v := 0) h dX5_rejectionReason_12 rfl (by decide) ?_
    refine r_callV1 (pc' := 16) (M := mX5_isFine) h hm dX5_rejectionReason_13 rfl lX5_49 vX5_isFine rfl hQ.l0 hQ.o (Nat.le_of_ble_eq_true rfl) (rrb rfl) (kX5_isFine (b := false) hQ (fun S1 hQ1 hR1 => ?_))
    show AW X G _ _ _ _ _ _ _ _
    show AW X G _ _ _ _ (.int 0 :: _) _ _ _
    have hQ1 : isM G N S1 (sMI _ 0 1) := hQ1
    refine r_if_eq (tgt := 26) (pc' := 19) h dX5_rejectionReason_16 (by decide) rfl (fun _ => ?_) (fun c => absurd c (by decide))
    refine r_iconst (pc' := 27) (v := 0) h dX5_rejectionReason_26 rfl (by decide) ?_
    refine r_ireturn h hm dX5_rejectionReason_27 (Nat.le_of_ble_eq_true rfl) (Nat.le_of_ble_eq_true rfl) ?_
    refine kM hk hQ1 hR1 ?_
    first | rfl | contradiction | (simp [qNz, qIf, qR, mM_sI, mI_sI, mI_sM, mM_sM, b2i, c0]; done) | (simp [qNz, qIf, qR, mM_sI, mI_sI, mI_sM, mM_sM, b2i, c0]; rfl) | (simp_all [qNz, qIf, qR, mM_sI, mI_sI, mI_sM, mM_sM, b2i, c0]; done)
  · try simp only [mM_sI, mM_sM] at c0
    refine r_iconst (pc' := 9) (v := 1) h dX5_rejectionReason_8 rfl (by decide) ?_
    refine r_goto (tgt := 13) h dX5_rejectionReason_9 (by decide) ?_
    refine r_callV1 (pc' := 16) (M := mX5_isFine) h hm dX5_rejectionReason_13 rfl lX5_49 vX5_isFine rfl hQ.l0 hQ.o (Nat.le_of_ble_eq_true rfl) (rrb rfl) (kX5_isFine (b := true) hQ (fun S2 hQ2 hR2 => ?_))
    show AW X G _ _ _ _ _ _ _ _
    show AW X G _ _ _ _ (.int 1 :: _) _ _ _
    have hQ2 : isM G N S2 (sMI _ 0 0) := hQ2
    refine r_if_eq (tgt := 26) (pc' := 19) h dX5_rejectionReason_16 (by decide) rfl (fun c => absurd c (by decide)) (fun _ => ?_)
    refine r_aload_n (pc' := 20) h dX5_rejectionReason_19 rfl rfl ?_
    refine gX5_40 (pc' := 23) h dX5_rejectionReason_20 rfl hQ2.l0 hQ2.o rfl ?_
    refine r_goto (tgt := 27) h dX5_rejectionReason_23 (by decide) ?_
    refine r_ireturn h hm dX5_rejectionReason_27 (Nat.le_of_ble_eq_true rfl) (Nat.le_of_ble_eq_true rfl) ?_
    refine kM hk hQ2 hR2 ?_
    first | rfl | contradiction | (simp [qNz, qIf, qR, mM_sI, mI_sI, mI_sM, mM_sM, b2i, c0]; done) | (simp [qNz, qIf, qR, mM_sI, mI_sI, mI_sM, mM_sM, b2i, c0]; rfl) | (simp_all [qNz, qIf, qR, mM_sI, mI_sI, mI_sM, mM_sM, b2i, c0]; done)
theorem kX5_rejectionDetail {l : Launch} {G : GX} {N : Nat} {S : Nat → va_E} {K : RK} {Q : MM} (hQ : isM G N S Q) (hk : ∀ S1, isM G N S1 (qNz Q (mI Q 5) (mI Q 6)).1 → GR S S1 → K (.inl (some (.int (qNz Q (mI Q 5) (mI Q 6)).2))) S1) : RetK l G N mX5_rejectionDetail (1, 21, 0, 0) [.ref (ad G 119)] S K := by
  refine ret_enter (by decide +kernel) (Nat.le_of_ble_eq_true rfl) (fun X hX h hm => ?_)
  subst hX
  replace h : OK X G N cX5_rejectionDetail RX5 1 (1, 21, 0, 0) := h
  replace hm : OKm X G N K (some .int) (1, 21, 0, 0) := hm
  show AW X G 1 N 0 [(0, _)] [] S 0 0
  refine r_aload_n (pc' := 1) h dX5_rejectionDetail_0 rfl rfl ?_
  refine r_aload_n (pc' := 2) h dX5_rejectionDetail_1 rfl rfl ?_
  refine gX5_40 (pc' := 5) h dX5_rejectionDetail_2 rfl hQ.l0 hQ.o rfl ?_
  refine r_if_eq (tgt := 12) (pc' := 8) h dX5_rejectionDetail_5 (by decide) rfl (fun c0 => ?_) (fun c0 => ?_)
  · try simp only [mM_sI, mM_sM] at c0
    refine r_iconst (pc' := 13) (v := 0) h dX5_rejectionDetail_12 rfl (by decide) ?_
    refine r_callV1 (pc' := 16) (M := mX5_isFine) h hm dX5_rejectionDetail_13 rfl lX5_49 vX5_isFine rfl hQ.l0 hQ.o (Nat.le_of_ble_eq_true rfl) (rrb rfl) (kX5_isFine (b := false) hQ (fun S1 hQ1 hR1 => ?_))
    show AW X G _ _ _ _ _ _ _ _
    show AW X G _ _ _ _ (.int 0 :: _) _ _ _
    have hQ1 : isM G N S1 (sMI _ 0 1) := hQ1
    refine r_if_eq (tgt := 26) (pc' := 19) h dX5_rejectionDetail_16 (by decide) rfl (fun _ => ?_) (fun c => absurd c (by decide))
    refine r_iconst (pc' := 27) (v := 0) h dX5_rejectionDetail_26 rfl (by decide) ?_
    refine r_ireturn h hm dX5_rejectionDetail_27 (Nat.le_of_ble_eq_true rfl) (Nat.le_of_ble_eq_true rfl) ?_
    refine kM hk hQ1 hR1 ?_
    first | rfl | contradiction | (simp [qNz, qIf, qR, mM_sI, mI_sI, mI_sM, mM_sM, b2i, c0]; done) | (simp [qNz, qIf, qR, mM_sI, mI_sI, mI_sM, mM_sM, b2i, c0]; rfl) | (simp_all [qNz, qIf, qR, mM_sI, mI_sI, mI_sM, mM_sM, b2i, c0]; done)
  · try simp only [mM_sI, mM_sM] at c0
    refine r_iconst (pc' := 9) (v := 1) h dX5_rejectionDetail_8 rfl (by decide) ?_
    refine r_goto (tgt := 13) h dX5_rejectionDetail_9 (by decide) ?_
    refine r_callV1 (pc' := 16) (M := mX5_isFine) h hm dX5_rejectionDetail_13 rfl lX5_49 vX5_isFine rfl hQ.l0 hQ.o (Nat.le_of_ble_eq_true rfl) (rrb rfl) (kX5_isFine (b := true) hQ (fun S2 hQ2 hR2 => ?_))
    show AW X G _ _ _ _ _ _ _ _
    show AW X G _ _ _ _ (.int 1 :: _) _ _ _
    have hQ2 : isM G N S2 (sMI _ 0 0) := hQ2
    refine r_if_eq (tgt := 26) (pc' := 19) h dX5_rejectionDetail_16 (by decide) rfl (fun c => absurd c (by decide)) (fun _ => ?_)
    refine r_aload_n (pc' := 20) h dX5_rejectionDetail_19 rfl rfl ?_
    refine gX5_43 (pc' := 23) h dX5_rejectionDetail_20 rfl hQ2.l0 hQ2.o rfl ?_
    refine r_goto (tgt := 27) h dX5_rejectionDetail_23 (by decide) ?_
    refine r_ireturn h hm dX5_rejectionDetail_27 (Nat.le_of_ble_eq_true rfl) (Nat.le_of_ble_eq_true rfl) ?_
    refine kM hk hQ2 hR2 ?_
    first | rfl | contradiction | (simp [qNz, qIf, qR, mM_sI, mI_sI, mI_sM, mM_sM, b2i, c0]; done) | (simp [qNz, qIf, qR, mM_sI, mI_sI, mI_sM, mM_sM, b2i, c0]; rfl) | (simp_all [qNz, qIf, qR, mM_sI, mI_sI, mI_sM, mM_sM, b2i, c0]; done)
theorem kX5_causeReason {l : Launch} {G : GX} {N : Nat} {S : Nat → va_E} {K : RK} {Q : MM} (hQ : isM G N S Q) (hk : ∀ S1, isM G N S1 (qNz Q (mI Q 7) (mI Q 7)).1 → GR S S1 → K (.inl (some (.int (qNz Q (mI Q 7) (mI Q 7)).2))) S1) : RetK l G N mX5_causeReason (1, 21, 0, 0) [.ref (ad G 119)] S K := by
  refine ret_enter (by decide +kernel) (Nat.le_of_ble_eq_true rfl) (fun X hX h hm => ?_)
  subst hX
  replace h : OK X G N cX5_causeReason RX5 1 (1, 21, 0, 0) := h
  replace hm : OKm X G N K (some .int) (1, 21, 0, 0) := hm
  show AW X G 1 N 0 [(0, _)] [] S 0 0
  refine r_aload_n (pc' := 1) h dX5_causeReason_0 rfl rfl ?_
  refine r_aload_n (pc' := 2) h dX5_causeReason_1 rfl rfl ?_
  refine gX5_46 (pc' := 5) h dX5_causeReason_2 rfl hQ.l0 hQ.o rfl ?_
  refine r_if_eq (tgt := 12) (pc' := 8) h dX5_causeReason_5 (by decide) rfl (fun c0 => ?_) (fun c0 => ?_)
  · try simp only [mM_sI, mM_sM] at c0
    refine r_iconst (pc' := 13) (v := 0) h dX5_causeReason_12 rfl (by decide) ?_
    refine r_callV1 (pc' := 16) (M := mX5_isFine) h hm dX5_causeReason_13 rfl lX5_49 vX5_isFine rfl hQ.l0 hQ.o (Nat.le_of_ble_eq_true rfl) (rrb rfl) (kX5_isFine (b := false) hQ (fun S1 hQ1 hR1 => ?_))
    show AW X G _ _ _ _ _ _ _ _
    show AW X G _ _ _ _ (.int 0 :: _) _ _ _
    have hQ1 : isM G N S1 (sMI _ 0 1) := hQ1
    refine r_if_eq (tgt := 26) (pc' := 19) h dX5_causeReason_16 (by decide) rfl (fun _ => ?_) (fun c => absurd c (by decide))
    refine r_iconst (pc' := 27) (v := 0) h dX5_causeReason_26 rfl (by decide) ?_
    refine r_ireturn h hm dX5_causeReason_27 (Nat.le_of_ble_eq_true rfl) (Nat.le_of_ble_eq_true rfl) ?_
    refine kM hk hQ1 hR1 ?_
    first | rfl | contradiction | (simp [qNz, qIf, qR, mM_sI, mI_sI, mI_sM, mM_sM, b2i, c0]; done) | (simp [qNz, qIf, qR, mM_sI, mI_sI, mI_sM, mM_sM, b2i, c0]; rfl) | (simp_all [qNz, qIf, qR, mM_sI, mI_sI, mI_sM, mM_sM, b2i, c0]; done)
  · try simp only [mM_sI, mM_sM] at c0
    refine r_iconst (pc' := 9) (v := 1) h dX5_causeReason_8 rfl (by decide) ?_
    refine r_goto (tgt := 13) h dX5_causeReason_9 (by decide) ?_
    refine r_callV1 (pc' := 16) (M := mX5_isFine) h hm dX5_causeReason_13 rfl lX5_49 vX5_isFine rfl hQ.l0 hQ.o (Nat.le_of_ble_eq_true rfl) (rrb rfl) (kX5_isFine (b := true) hQ (fun S2 hQ2 hR2 => ?_))
    show AW X G _ _ _ _ _ _ _ _
    show AW X G _ _ _ _ (.int 1 :: _) _ _ _
    have hQ2 : isM G N S2 (sMI _ 0 0) := hQ2
    refine r_if_eq (tgt := 26) (pc' := 19) h dX5_causeReason_16 (by decide) rfl (fun c => absurd c (by decide)) (fun _ => ?_)
    refine r_aload_n (pc' := 20) h dX5_causeReason_19 rfl rfl ?_
    refine gX5_46 (pc' := 23) h dX5_causeReason_20 rfl hQ2.l0 hQ2.o rfl ?_
    refine r_goto (tgt := 27) h dX5_causeReason_23 (by decide) ?_
    refine r_ireturn h hm dX5_causeReason_27 (Nat.le_of_ble_eq_true rfl) (Nat.le_of_ble_eq_true rfl) ?_
    refine kM hk hQ2 hR2 ?_
    first | rfl | contradiction | (simp [qNz, qIf, qR, mM_sI, mI_sI, mI_sM, mM_sM, b2i, c0]; done) | (simp [qNz, qIf, qR, mM_sI, mI_sI, mI_sM, mM_sM, b2i, c0]; rfl) | (simp_all [qNz, qIf, qR, mM_sI, mI_sI, mI_sM, mM_sM, b2i, c0]; done)
theorem kX5_syntaxErrorOffset {l : Launch} {G : GX} {N : Nat} {S : Nat → va_E} {K : RK} {Q : MM} (hQ : isM G N S Q) (hk : ∀ S1, isM G N S1 (if mI Q 14 = -1 then qR Q 1 0 else qR Q 0 (mI Q 14)).1 → GR S S1 → K (.inl (some (.int (if mI Q 14 = -1 then qR Q 1 0 else qR Q 0 (mI Q 14)).2))) S1) : RetK l G N mX5_syntaxErrorOffset (1, 21, 0, 0) [.ref (ad G 119)] S K := by
  refine ret_enter (by decide +kernel) (Nat.le_of_ble_eq_true rfl) (fun X hX h hm => ?_)
  subst hX
  replace h : OK X G N cX5_syntaxErrorOffset RX5 1 (1, 21, 0, 0) := h
  replace hm : OKm X G N K (some .int) (1, 21, 0, 0) := hm
  show AW X G 1 N 0 [(0, _)] [] S 0 0
  refine r_aload_n (pc' := 1) h dX5_syntaxErrorOffset_0 rfl rfl ?_
  refine r_aload_n (pc' := 2) h dX5_syntaxErrorOffset_1 rfl rfl ?_
  refine gX5_20 (pc' := 5) h dX5_syntaxErrorOffset_2 rfl hQ.l0 hQ.o rfl ?_
  refine r_iconst (pc' := 6) (v := -1) h dX5_syntaxErrorOffset_5 rfl (by decide) ?_
  refine r_icmp_eq (tgt := 13) (pc' := 9) h dX5_syntaxErrorOffset_6 (by decide) rfl (fun c0 => ?_) (fun c0 => ?_)
  · try simp only [mM_sI, mM_sM] at c0
    refine r_iconst (pc' := 14) (v := 0) h dX5_syntaxErrorOffset_13 rfl (by decide) ?_
    refine r_callV1 (pc' := 17) (M := mX5_isFine) h hm dX5_syntaxErrorOffset_14 rfl lX5_49 vX5_isFine rfl hQ.l0 hQ.o (Nat.le_of_ble_eq_true rfl) (rrb rfl) (kX5_isFine (b := false) hQ (fun S1 hQ1 hR1 => ?_))
    show AW X G _ _ _ _ _ _ _ _
    show AW X G _ _ _ _ (.int 0 :: _) _ _ _
    have hQ1 : isM G N S1 (sMI _ 0 1) := hQ1
    refine r_if_eq (tgt := 27) (pc' := 20) h dX5_syntaxErrorOffset_17 (by decide) rfl (fun _ => ?_) (fun c => absurd c (by decide))
    refine r_iconst (pc' := 28) (v := 0) h dX5_syntaxErrorOffset_27 rfl (by decide) ?_
    refine r_ireturn h hm dX5_syntaxErrorOffset_28 (Nat.le_of_ble_eq_true rfl) (Nat.le_of_ble_eq_true rfl) ?_
    refine kM hk hQ1 hR1 ?_
    first | rfl | contradiction | (simp [qIf, qR, mM_sI, mI_sI, mI_sM, mM_sM, b2i, c0]; done) | (simp [qIf, qR, mM_sI, mI_sI, mI_sM, mM_sM, b2i, c0]; rfl) | (simp_all [qIf, qR, mM_sI, mI_sI, mI_sM, mM_sM, b2i, c0]; done)
  · try simp only [mM_sI, mM_sM] at c0
    refine r_iconst (pc' := 10) (v := 1) h dX5_syntaxErrorOffset_9 rfl (by decide) ?_
    refine r_goto (tgt := 14) h dX5_syntaxErrorOffset_10 (by decide) ?_
    refine r_callV1 (pc' := 17) (M := mX5_isFine) h hm dX5_syntaxErrorOffset_14 rfl lX5_49 vX5_isFine rfl hQ.l0 hQ.o (Nat.le_of_ble_eq_true rfl) (rrb rfl) (kX5_isFine (b := true) hQ (fun S2 hQ2 hR2 => ?_))
    show AW X G _ _ _ _ _ _ _ _
    show AW X G _ _ _ _ (.int 1 :: _) _ _ _
    have hQ2 : isM G N S2 (sMI _ 0 0) := hQ2
    refine r_if_eq (tgt := 27) (pc' := 20) h dX5_syntaxErrorOffset_17 (by decide) rfl (fun c => absurd c (by decide)) (fun _ => ?_)
    refine r_aload_n (pc' := 21) h dX5_syntaxErrorOffset_20 rfl rfl ?_
    refine gX5_20 (pc' := 24) h dX5_syntaxErrorOffset_21 rfl hQ2.l0 hQ2.o rfl ?_
    refine r_goto (tgt := 28) h dX5_syntaxErrorOffset_24 (by decide) ?_
    refine r_ireturn h hm dX5_syntaxErrorOffset_28 (Nat.le_of_ble_eq_true rfl) (Nat.le_of_ble_eq_true rfl) ?_
    refine kM hk hQ2 hR2 ?_
    first | rfl | contradiction | (simp [qIf, qR, mM_sI, mI_sI, mI_sM, mM_sM, b2i, c0]; done) | (simp [qIf, qR, mM_sI, mI_sI, mI_sM, mM_sM, b2i, c0]; rfl) | (simp_all [qIf, qR, mM_sI, mI_sI, mI_sM, mM_sM, b2i, c0]; done)
theorem kX5_undo {l : Launch} {G : GX} {N : Nat} {S : Nat → va_E} {K : RK} {Q : MM} (hQ : isM G N S Q) (hc : hC Q) (hk : ∀ S1, isM G N S1 (qUn Q).1 → GR S S1 → K (.inl (some (.int (qUn Q).2))) S1) : RetK l G N mX5_undo (1, 23, 0, 0) [.ref (ad G 119)] S K := by
  refine ret_enter (by decide +kernel) (Nat.le_of_ble_eq_true rfl) (fun X hX h hm => ?_)
  subst hX
  replace h : OK X G N cX5_undo RX5 1 (1, 23, 0, 0) := h
  replace hm : OKm X G N K (some .int) (1, 23, 0, 0) := hm
  show AW X G 1 N 0 [(0, _)] [] S 0 0
  refine r_aload_n (pc' := 1) h dX5_undo_0 rfl rfl ?_
  refine r_aload_n (pc' := 2) h dX5_undo_1 rfl rfl ?_
  refine gX5_34 (pc' := 5) h dX5_undo_2 rfl hQ.l0 hQ.o rfl ?_
  refine r_if_le (tgt := 12) (pc' := 8) h dX5_undo_5 (by decide) rfl (fun c0 => ?_) (fun c0 => ?_)
  · try simp only [mM_sI, mM_sM] at c0
    refine r_iconst (pc' := 13) (v := 0) h dX5_undo_12 rfl (by decide) ?_
    refine r_callV1 (pc' := 16) (M := mX5_isFine) h hm dX5_undo_13 rfl lX5_49 vX5_isFine rfl hQ.l0 hQ.o (Nat.le_of_ble_eq_true rfl) (rrb rfl) (kX5_isFine (b := false) hQ (fun S1 hQ1 hR1 => ?_))
    show AW X G _ _ _ _ _ _ _ _
    show AW X G _ _ _ _ (.int 0 :: _) _ _ _
    have hQ1 : isM G N S1 (sMI _ 0 1) := hQ1
    refine r_if_ne (tgt := 21) (pc' := 19) h dX5_undo_16 (by decide) rfl (fun c => absurd c (by decide)) (fun _ => ?_)
    refine r_iconst (pc' := 20) (v := 0) h dX5_undo_19 rfl (by decide) ?_
    refine r_ireturn h hm dX5_undo_20 (Nat.le_of_ble_eq_true rfl) (Nat.le_of_ble_eq_true rfl) ?_
    refine kM hk hQ1 hR1 ?_
    first | rfl | contradiction | (simp [qUn, qIf, qR, mM_sI, mI_sI, mI_sM, mM_sM, b2i, c0]; done) | (simp [qUn, qIf, qR, mM_sI, mI_sI, mI_sM, mM_sM, b2i, c0]; rfl) | (simp_all [qUn, qIf, qR, mM_sI, mI_sI, mI_sM, mM_sM, b2i, c0]; done)
  · try simp only [mM_sI, mM_sM] at c0
    refine r_iconst (pc' := 9) (v := 1) h dX5_undo_8 rfl (by decide) ?_
    refine r_goto (tgt := 13) h dX5_undo_9 (by decide) ?_
    refine r_callV1 (pc' := 16) (M := mX5_isFine) h hm dX5_undo_13 rfl lX5_49 vX5_isFine rfl hQ.l0 hQ.o (Nat.le_of_ble_eq_true rfl) (rrb rfl) (kX5_isFine (b := true) hQ (fun S2 hQ2 hR2 => ?_))
    show AW X G _ _ _ _ _ _ _ _
    show AW X G _ _ _ _ (.int 1 :: _) _ _ _
    have hQ2 : isM G N S2 (sMI _ 0 0) := hQ2
    refine r_if_ne (tgt := 21) (pc' := 19) h dX5_undo_16 (by decide) rfl (fun _ => ?_) (fun c => absurd c (by decide))
    refine r_aload_n (pc' := 22) h dX5_undo_21 rfl rfl ?_
    refine r_aload_n (pc' := 23) h dX5_undo_22 rfl rfl ?_
    refine gX5_34 (pc' := 26) h dX5_undo_23 rfl hQ2.l0 hQ2.o rfl ?_
    refine r_iconst (pc' := 27) (v := 0) h dX5_undo_26 rfl (by decide) ?_
    refine r_callV2 (pc' := 30) (M := mX5_copies) h hm dX5_undo_27 rfl lX5_30 vX5_copies rfl hQ2.l0 hQ2.o (Nat.le_of_ble_eq_true rfl) (rrb rfl) (kX5_copiesX (f := (mI Q 2).toNatClampNeg) (t := 0) hQ2 (by show mI Q 2 = _; exact hc.1) rfl (by have := hc.2; omega) (by decide) (by have e1 := hc.1; intro e2; rw [e2] at e1; exact c0 (by rw [e1]; decide)) (fun S3 hQ3 hR3 => ?_))
    show AW X G _ _ _ _ _ _ _ _
    refine r_aload_n (pc' := 31) h dX5_undo_30 rfl rfl ?_
    refine r_dup (pc' := 32) h dX5_undo_31 rfl rfl ?_
    refine gX5_34 (pc' := 35) h dX5_undo_32 rfl hQ3.l0 hQ3.o rfl ?_
    refine r_iconst (pc' := 36) (v := 1) h dX5_undo_35 rfl (by decide) ?_
    refine r_isub (pc' := 37) h dX5_undo_36 rfl ?_
    refine pX5_34 (pc' := 40) h dX5_undo_37 rfl hQ3.l0 hQ3.o (Nat.le_of_ble_eq_true rfl) ?_
    refine wM2 hQ3 (fun S4 hQ4 hR4 => ?_)
    refine r_aload_n (pc' := 41) h dX5_undo_40 rfl rfl ?_
    refine gX5_34 (pc' := 44) h dX5_undo_41 rfl hQ4.l0 hQ4.o rfl ?_
    refine r_ireturn h hm dX5_undo_44 (Nat.le_of_ble_eq_true rfl) (Nat.le_of_ble_eq_true rfl) ?_
    refine kM hk hQ4 (((hR2).trans hR3).trans hR4) ?_
    first | rfl | contradiction | (simp [qUn, qIf, qR, mM_sI, mI_sI, mI_sM, mM_sM, b2i, c0]; done) | (simp [qUn, qIf, qR, mM_sI, mI_sI, mI_sM, mM_sM, b2i, c0]; rfl) | (simp_all [qUn, qIf, qR, mM_sI, mI_sI, mI_sM, mM_sM, b2i, c0]; done)
theorem kX5_saveSnapshot {l : Launch} {G : GX} {N : Nat} {S : Nat → va_E} {K : RK} {Q : MM} (hQ : isM G N S Q) (hk : ∀ S1, isM G N S1 (qSv Q).1 → GR S S1 → K (.inl (some (.int (qSv Q).2))) S1) : RetK l G N mX5_saveSnapshot (1, 23, 0, 0) [.ref (ad G 119)] S K := by
  refine ret_enter (by decide +kernel) (Nat.le_of_ble_eq_true rfl) (fun X hX h hm => ?_)
  subst hX
  replace h : OK X G N cX5_saveSnapshot RX5 1 (1, 23, 0, 0) := h
  replace hm : OKm X G N K (some .int) (1, 23, 0, 0) := hm
  show AW X G 1 N 0 [(0, _)] [] S 0 0
  refine r_aload_n (pc' := 1) h dX5_saveSnapshot_0 rfl rfl ?_
  refine r_iconst (pc' := 2) (v := 0) h dX5_saveSnapshot_1 rfl (by decide) ?_
  refine pX5_27 (pc' := 5) h dX5_saveSnapshot_2 rfl hQ.l0 hQ.o (Nat.le_of_ble_eq_true rfl) ?_
  refine wM0 hQ (fun S1 hQ1 hR1 => ?_)
  refine r_aload_n (pc' := 6) h dX5_saveSnapshot_5 rfl rfl ?_
  refine r_iconst (pc' := 7) (v := 1) h dX5_saveSnapshot_6 rfl (by decide) ?_
  refine pX5_239 (pc' := 10) h dX5_saveSnapshot_7 rfl hQ1.l0 hQ1.o (Nat.le_of_ble_eq_true rfl) rfl rfl ?_
  refine wM3 hQ1 (fun S2 hQ2 hR2 => ?_)
  refine r_aload_n (pc' := 11) h dX5_saveSnapshot_10 rfl rfl ?_
  refine r_iconst (pc' := 12) (v := 0) h dX5_saveSnapshot_11 rfl (by decide) ?_
  refine r_bipush (pc' := 14) (v := 9) h dX5_saveSnapshot_12 rfl (by decide) ?_
  refine r_callV2 (pc' := 17) (M := mX5_copies) h hm dX5_saveSnapshot_14 rfl lX5_30 vX5_copies rfl hQ2.l0 hQ2.o (Nat.le_of_ble_eq_true rfl) (rrb rfl) (kX5_copies (f := 0) (t := 9) hQ2 (by decide) (by decide) (by decide) (fun S3 hQ3 hR3 => ?_))
  show AW X G _ _ _ _ _ _ _ _
  refine r_aload_n (pc' := 18) h dX5_saveSnapshot_17 rfl rfl ?_
  refine gX5_9 (pc' := 21) h dX5_saveSnapshot_18 rfl hQ3.l0 hQ3.o rfl ?_
  refine r_iconst (pc' := 22) (v := 0) h dX5_saveSnapshot_21 rfl (by decide) ?_
  refine r_ialdk (k0 := 0) (pc' := 23) h dX5_saveSnapshot_22 rfl hQ3.l1 hQ3.r1 (by unfold vp_in; decide) rfl ?_
  refine r_ireturn h hm dX5_saveSnapshot_23 (Nat.le_of_ble_eq_true rfl) (Nat.le_of_ble_eq_true rfl) ?_
  exact kM hk hQ3 (((hR1).trans hR2).trans hR3) rfl
theorem kX5_restoreSnapshot {l : Launch} {G : GX} {N : Nat} {S : Nat → va_E} {K : RK} {Q : MM} (hQ : isM G N S Q) {sv : Bool} (hs : mI Q 3 = b2i sv) (hk : ∀ S1, isM G N S1 (qRs Q).1 → GR S S1 → K (.inl (some (.int (qRs Q).2))) S1) : RetK l G N mX5_restoreSnapshot (1, 23, 0, 0) [.ref (ad G 119)] S K := by
  refine ret_enter (by decide +kernel) (Nat.le_of_ble_eq_true rfl) (fun X hX h hm => ?_)
  subst hX
  replace h : OK X G N cX5_restoreSnapshot RX5 1 (1, 23, 0, 0) := h
  replace hm : OKm X G N K (some .int) (1, 23, 0, 0) := hm
  show AW X G 1 N 0 [(0, _)] [] S 0 0
  refine r_aload_n (pc' := 1) h dX5_restoreSnapshot_0 rfl rfl ?_
  refine r_aload_n (pc' := 2) h dX5_restoreSnapshot_1 rfl rfl ?_
  refine gX5_239 (pc' := 5) h dX5_restoreSnapshot_2 rfl hQ.l0 hQ.o rfl ?_
  refine aw_st (by rw [hs]) ?_
  refine r_callV1 (pc' := 8) (M := mX5_isFine) h hm dX5_restoreSnapshot_5 rfl lX5_49 vX5_isFine rfl hQ.l0 hQ.o (Nat.le_of_ble_eq_true rfl) (rrb rfl) (kX5_isFine (b := sv) hQ (fun S1 hQ1 hR1 => ?_))
  show AW X G _ _ _ _ _ _ _ _
  refine r_if_neb (tgt := 13) (pc' := 11) h dX5_restoreSnapshot_8 (by decide) rfl (fun c0 => ?_) (fun c0 => ?_)
  · try simp only [mM_sI, mM_sM] at c0
    refine r_aload_n (pc' := 14) h dX5_restoreSnapshot_13 rfl rfl ?_
    refine r_bipush (pc' := 16) (v := 9) h dX5_restoreSnapshot_14 rfl (by decide) ?_
    refine r_iconst (pc' := 17) (v := 0) h dX5_restoreSnapshot_16 rfl (by decide) ?_
    refine r_callV2 (pc' := 20) (M := mX5_copies) h hm dX5_restoreSnapshot_17 rfl lX5_30 vX5_copies rfl hQ1.l0 hQ1.o (Nat.le_of_ble_eq_true rfl) (rrb rfl) (kX5_copies (f := 9) (t := 0) hQ1 (by decide) (by decide) (by decide) (fun S2 hQ2 hR2 => ?_))
    show AW X G _ _ _ _ _ _ _ _
    refine r_aload_n (pc' := 21) h dX5_restoreSnapshot_20 rfl rfl ?_
    refine r_iconst (pc' := 22) (v := 0) h dX5_restoreSnapshot_21 rfl (by decide) ?_
    refine pX5_34 (pc' := 25) h dX5_restoreSnapshot_22 rfl hQ2.l0 hQ2.o (Nat.le_of_ble_eq_true rfl) ?_
    refine wM2 hQ2 (fun S3 hQ3 hR3 => ?_)
    refine r_aload_n (pc' := 26) h dX5_restoreSnapshot_25 rfl rfl ?_
    refine gX5_9 (pc' := 29) h dX5_restoreSnapshot_26 rfl hQ3.l0 hQ3.o rfl ?_
    refine r_iconst (pc' := 30) (v := 0) h dX5_restoreSnapshot_29 rfl (by decide) ?_
    refine r_ialdk (k0 := 0) (pc' := 31) h dX5_restoreSnapshot_30 rfl hQ3.l1 hQ3.r1 (by unfold vp_in; decide) rfl ?_
    refine r_ireturn h hm dX5_restoreSnapshot_31 (Nat.le_of_ble_eq_true rfl) (Nat.le_of_ble_eq_true rfl) ?_
    refine kM hk hQ3 (((hR1).trans hR2).trans hR3) ?_
    cases sv <;> simp_all [qRs, qR, b2i] <;> first | rfl | exact ⟨rfl, rfl⟩
  · try simp only [mM_sI, mM_sM] at c0
    refine r_iconst (pc' := 12) (v := 0) h dX5_restoreSnapshot_11 rfl (by decide) ?_
    refine r_ireturn h hm dX5_restoreSnapshot_12 (Nat.le_of_ble_eq_true rfl) (Nat.le_of_ble_eq_true rfl) ?_
    refine kM hk hQ1 hR1 ?_
    cases sv <;> simp_all [qRs, qR, b2i] <;> first | rfl | exact ⟨rfl, rfl⟩
