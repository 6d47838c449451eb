/-! THE WALKS: the dispatcher. -/
theorem kX4_requireTurbine {l : Launch} {G : GX} {N : Nat} {S : Nat → va_E} {K : RK} {D : DM} (hD : isD G N S D) {t : Int32} (h1 : hasT (dF D 0) t = true → K (.inl none) S) (h2 : hasT (dF D 0) t = false → K (.inr eI) S) : RetK l G N mX4_requireTurbine (7, 103, 1, 6) [.ref (ad G 0), .int t] S K := by
  refine ret_enter (by decide +kernel) (Nat.le_of_ble_eq_true rfl) (fun X hX h hm => ?_)
  subst hX
  replace h : OK X G N cX4_requireTurbine RX4 2 (7, 103, 1, 6) := h
  replace hm : OKm X G N K none (7, 103, 1, 6) := hm
  show AW X G 2 N 0 [(0, _), (1, _)] [] S 0 0
  refine r_aload_n (pc' := 1) h dX4_requireTurbine_0 rfl rfl ?_
  refine gX4_10 (pc' := 4) h dX4_requireTurbine_1 rfl hD.l0 hD.o0 rfl ?_
  refine r_iload_n (pc' := 5) h dX4_requireTurbine_4 rfl rfl ?_
  refine r_callV1 (pc' := 8) (M := mX1_hasTurbine) h hm dX4_requireTurbine_5 rfl lX4_386 vX1_hasTurbine rfl hD.f0.l0 hD.f0.o (Nat.le_of_ble_eq_true rfl) (rrb rfl) (kX1_hasTurbine hD.f0 ?_)
  show AW X G _ _ _ _ _ _ _ _
  refine r_if_neb (tgt := 22) (pc' := 11) h dX4_requireTurbine_8 (by decide) rfl (fun c0 => ?_) (fun c0 => ?_)
  · refine r_return h hm dX4_requireTurbine_22 (Nat.le_of_ble_eq_true rfl) (Nat.le_of_ble_eq_true rfl) ?_
    exact h1 c0
  · refine r_throwW h hm tX4_83 lX4_79 (i := 14) rfl dX4_requireTurbine_11 dX4_requireTurbine_14 dX4_requireTurbine_15 dX4_requireTurbine_18 dX4_requireTurbine_21 (rrt rfl) ⟨rfl, rfl, rfl, rfl⟩ ?_
    exact h2 c0
theorem kX4_requireHour {l : Launch} {G : GX} {N : Nat} {S : Nat → va_E} {K : RK} {D : DM} (hD : isD G N S D) {t : Int32} (h1 : isHour' t = true → K (.inl none) S) (h2 : isHour' t = false → K (.inr eI) S) : RetK l G N mX4_requireHour (7, 103, 1, 6) [.ref (ad G 0), .int t] S K := by
  refine ret_enter (by decide +kernel) (Nat.le_of_ble_eq_true rfl) (fun X hX h hm => ?_)
  subst hX
  replace h : OK X G N cX4_requireHour RX4 2 (7, 103, 1, 6) := h
  replace hm : OKm X G N K none (7, 103, 1, 6) := hm
  show AW X G 2 N 0 [(0, _), (1, _)] [] S 0 0
  refine r_iload_n (pc' := 1) h dX4_requireHour_0 rfl rfl ?_
  refine r_callS1 (pc' := 4) (M := mX4_isHourOfDay) h hm dX4_requireHour_1 rfl lX4_391 vX4_isHourOfDay (Nat.le_of_ble_eq_true rfl) (rrb rfl) (kX4_isHourOfDay ?_)
  show AW X G _ _ _ _ _ _ _ _
  refine r_if_neb (tgt := 18) (pc' := 7) h dX4_requireHour_4 (by decide) rfl (fun c0 => ?_) (fun c0 => ?_)
  · refine r_return h hm dX4_requireHour_18 (Nat.le_of_ble_eq_true rfl) (Nat.le_of_ble_eq_true rfl) ?_
    exact h1 c0
  · refine r_throwW h hm tX4_83 lX4_79 (i := 18) rfl dX4_requireHour_7 dX4_requireHour_10 dX4_requireHour_11 dX4_requireHour_14 dX4_requireHour_17 (rrt rfl) ⟨rfl, rfl, rfl, rfl⟩ ?_
    exact h2 c0
theorem kX4_requireBid {l : Launch} {G : GX} {N : Nat} {S : Nat → va_E} {K : RK} {D : DM} (hD : isD G N S D) {t : Int32} (h1 : isHour' t = true → bidF (dF D 0) t = true → K (.inl none) S) (h2 : isHour' t = false → K (.inr eI) S) (h3 : isHour' t = true → bidF (dF D 0) t = false → K (.inr eN) S) : RetK l G N mX4_requireBid (8, 124, 2, 12) [.ref (ad G 0), .int t] S K := by
  refine ret_enter (by decide +kernel) (Nat.le_of_ble_eq_true rfl) (fun X hX h hm => ?_)
  subst hX
  replace h : OK X G N cX4_requireBid RX4 2 (8, 124, 2, 12) := h
  replace hm : OKm X G N K none (8, 124, 2, 12) := hm
  show AW X G 2 N 0 [(0, _), (1, _)] [] S 0 0
  refine r_aload_n (pc' := 1) h dX4_requireBid_0 rfl rfl ?_
  refine r_iload_n (pc' := 2) h dX4_requireBid_1 rfl rfl ?_
  refine r_callV1 (pc' := 5) (M := mX4_requireHour) h hm dX4_requireBid_2 rfl lX4_201 vX4_requireHour rfl hD.l0 hD.o0 (Nat.le_of_ble_eq_true rfl) (rrb rfl) (kX4_requireHour hD (fun c0 => ?_) (fun c1 => ?_))
  · show AW X G _ _ _ _ _ _ _ _
    refine r_aload_n (pc' := 6) h dX4_requireBid_5 rfl rfl ?_
    refine gX4_10 (pc' := 9) h dX4_requireBid_6 rfl hD.l0 hD.o0 rfl ?_
    refine r_iload_n (pc' := 10) h dX4_requireBid_9 rfl rfl ?_
    refine r_callV1 (pc' := 13) (M := mX1_isBidFor) h hm dX4_requireBid_10 rfl lX4_204 vX1_isBidFor rfl hD.f0.l0 hD.f0.o (Nat.le_of_ble_eq_true rfl) (rrb rfl) (kX1_isBidFor hD.f0 ?_)
    show AW X G _ _ _ _ _ _ _ _
    refine r_if_neb (tgt := 27) (pc' := 16) h dX4_requireBid_13 (by decide) rfl (fun c2 => ?_) (fun c2 => ?_)
    · refine r_return h hm dX4_requireBid_27 (Nat.le_of_ble_eq_true rfl) (Nat.le_of_ble_eq_true rfl) ?_
      exact h1 c0 c2
    · refine r_throwNE h hm tX4_93 lX4_89 (i := 19) rfl dX4_requireBid_16 dX4_requireBid_19 (Or.inr ⟨dX4_requireBid_20, rfl⟩) dX4_requireBid_23 dX4_requireBid_26 (rrt rfl) ⟨rfl, rfl, rfl⟩ ?_
      exact h3 c0 c2
  · show K (.inr _) _
    exact h2 c1
theorem kX4_requireRejection {l : Launch} {G : GX} {N : Nat} {S : Nat → va_E} {K : RK} {D : DM} (hD : isD G N S D) (h1 : ¬ dI D 2 = 0 → K (.inl none) S) (h2 : dI D 2 = 0 → K (.inr eN) S) : RetK l G N mX4_requireRejection (7, 103, 1, 6) [.ref (ad G 0)] S K := by
  refine ret_enter (by decide +kernel) (Nat.le_of_ble_eq_true rfl) (fun X hX h hm => ?_)
  subst hX
  replace h : OK X G N cX4_requireRejection RX4 1 (7, 103, 1, 6) := h
  replace hm : OKm X G N K none (7, 103, 1, 6) := hm
  show AW X G 1 N 0 [(0, _)] [] S 0 0
  refine r_aload_n (pc' := 1) h dX4_requireRejection_0 rfl rfl ?_
  refine gX4_338 (pc' := 4) h dX4_requireRejection_1 rfl hD.l0 hD.o0 rfl ?_
  refine r_if_ne (tgt := 18) (pc' := 7) h dX4_requireRejection_4 (by decide) rfl (fun c0 => ?_) (fun c0 => ?_)
  · refine r_return h hm dX4_requireRejection_18 (Nat.le_of_ble_eq_true rfl) (Nat.le_of_ble_eq_true rfl) ?_
    exact h1 c0
  · refine r_throwNE h hm tX4_93 lX4_89 (i := 25) rfl dX4_requireRejection_7 dX4_requireRejection_10 (Or.inr ⟨dX4_requireRejection_11, rfl⟩) dX4_requireRejection_14 dX4_requireRejection_17 (rrt rfl) ⟨rfl, rfl, rfl⟩ ?_
    exact h2 c0
theorem kX4_rowOf {l : Launch} {G : GX} {N : Nat} {S : Nat → va_E} {K : RK} {D : DM} (hD : isD G N S D) {t : Int32} (hk : K (if hasT (dF D 0) t then .inl (some (.int (vAt 12 (fA (dF D 0) 0) t))) else .inr eI) S) : RetK l G N mX4_rowOf (8, 124, 1, 6) [.ref (ad G 0), .int t] S K := by
  refine ret_enter (by decide +kernel) (Nat.le_of_ble_eq_true rfl) (fun X hX h hm => ?_)
  subst hX
  replace h : OK X G N cX4_rowOf RX4 2 (8, 124, 1, 6) := h
  replace hm : OKm X G N K (some .int) (8, 124, 1, 6) := hm
  show AW X G 2 N 0 [(0, _), (1, _)] [] S 0 0
  refine r_aload_n (pc' := 1) h dX4_rowOf_0 rfl rfl ?_
  refine r_iload_n (pc' := 2) h dX4_rowOf_1 rfl rfl ?_
  refine r_callV1 (pc' := 5) (M := mX4_requireTurbine) h hm dX4_rowOf_2 rfl lX4_94 vX4_requireTurbine rfl hD.l0 hD.o0 (Nat.le_of_ble_eq_true rfl) (rrb rfl) (kX4_requireTurbine hD (fun c0 => ?_) (fun c1 => ?_))
  · show AW X G _ _ _ _ _ _ _ _
    refine r_aload_n (pc' := 6) h dX4_rowOf_5 rfl rfl ?_
    refine gX4_10 (pc' := 9) h dX4_rowOf_6 rfl hD.l0 hD.o0 rfl ?_
    refine gX4_98 (pc' := 12) h dX4_rowOf_9 rfl hD.f0.l0 hD.f0.o rfl ?_
    refine r_iload_n (pc' := 13) h dX4_rowOf_12 rfl rfl ?_
    refine r_callS2 (pc' := 16) (M := mX4_valueAt) h hm dX4_rowOf_13 rfl lX4_102 vX4_valueAt (Nat.le_of_ble_eq_true rfl) (rrb rfl) (kX4_valueAt hD.f0.l1 hD.f0.r1 (by decide) ?_)
    show AW X G _ _ _ _ _ _ _ _
    refine r_ireturn h hm dX4_rowOf_16 (Nat.le_of_ble_eq_true rfl) (Nat.le_of_ble_eq_true rfl) ?_
    exact kO hk (by simp [c0])
  · show K (.inr _) _
    exact kO hk (by simp [c1])
theorem kX4_columnOf {l : Launch} {G : GX} {N : Nat} {S : Nat → va_E} {K : RK} {D : DM} (hD : isD G N S D) {t : Int32} (hk : K (if hasT (dF D 0) t then .inl (some (.int (vAt 12 (fA (dF D 0) 1) t))) else .inr eI) S) : RetK l G N mX4_columnOf (8, 124, 1, 6) [.ref (ad G 0), .int t] S K := by
  refine ret_enter (by decide +kernel) (Nat.le_of_ble_eq_true rfl) (fun X hX h hm => ?_)
  subst hX
  replace h : OK X G N cX4_columnOf RX4 2 (8, 124, 1, 6) := h
  replace hm : OKm X G N K (some .int) (8, 124, 1, 6) := hm
  show AW X G 2 N 0 [(0, _), (1, _)] [] S 0 0
  refine r_aload_n (pc' := 1) h dX4_columnOf_0 rfl rfl ?_
  refine r_iload_n (pc' := 2) h dX4_columnOf_1 rfl rfl ?_
  refine r_callV1 (pc' := 5) (M := mX4_requireTurbine) h hm dX4_columnOf_2 rfl lX4_94 vX4_requireTurbine rfl hD.l0 hD.o0 (Nat.le_of_ble_eq_true rfl) (rrb rfl) (kX4_requireTurbine hD (fun c0 => ?_) (fun c1 => ?_))
  · show AW X G _ _ _ _ _ _ _ _
    refine r_aload_n (pc' := 6) h dX4_columnOf_5 rfl rfl ?_
    refine gX4_10 (pc' := 9) h dX4_columnOf_6 rfl hD.l0 hD.o0 rfl ?_
    refine gX4_106 (pc' := 12) h dX4_columnOf_9 rfl hD.f0.l0 hD.f0.o rfl ?_
    refine r_iload_n (pc' := 13) h dX4_columnOf_12 rfl rfl ?_
    refine r_callS2 (pc' := 16) (M := mX4_valueAt) h hm dX4_columnOf_13 rfl lX4_102 vX4_valueAt (Nat.le_of_ble_eq_true rfl) (rrb rfl) (kX4_valueAt hD.f0.l2 hD.f0.r2 (by decide) ?_)
    show AW X G _ _ _ _ _ _ _ _
    refine r_ireturn h hm dX4_columnOf_16 (Nat.le_of_ble_eq_true rfl) (Nat.le_of_ble_eq_true rfl) ?_
    exact kO hk (by simp [c0])
  · show K (.inr _) _
    exact kO hk (by simp [c1])
theorem kX4_ratedPower {l : Launch} {G : GX} {N : Nat} {S : Nat → va_E} {K : RK} {D : DM} (hD : isD G N S D) {t : Int32} (hk : K (if hasT (dF D 0) t then .inl (some (.int (vAt 12 (fA (dF D 0) 2) t))) else .inr eI) S) : RetK l G N mX4_ratedPower (8, 124, 1, 6) [.ref (ad G 0), .int t] S K := by
  refine ret_enter (by decide +kernel) (Nat.le_of_ble_eq_true rfl) (fun X hX h hm => ?_)
  subst hX
  replace h : OK X G N cX4_ratedPower RX4 2 (8, 124, 1, 6) := h
  replace hm : OKm X G N K (some .int) (8, 124, 1, 6) := hm
  show AW X G 2 N 0 [(0, _), (1, _)] [] S 0 0
  refine r_aload_n (pc' := 1) h dX4_ratedPower_0 rfl rfl ?_
  refine r_iload_n (pc' := 2) h dX4_ratedPower_1 rfl rfl ?_
  refine r_callV1 (pc' := 5) (M := mX4_requireTurbine) h hm dX4_ratedPower_2 rfl lX4_94 vX4_requireTurbine rfl hD.l0 hD.o0 (Nat.le_of_ble_eq_true rfl) (rrb rfl) (kX4_requireTurbine hD (fun c0 => ?_) (fun c1 => ?_))
  · show AW X G _ _ _ _ _ _ _ _
    refine r_aload_n (pc' := 6) h dX4_ratedPower_5 rfl rfl ?_
    refine gX4_10 (pc' := 9) h dX4_ratedPower_6 rfl hD.l0 hD.o0 rfl ?_
    refine gX4_109 (pc' := 12) h dX4_ratedPower_9 rfl hD.f0.l0 hD.f0.o rfl ?_
    refine r_iload_n (pc' := 13) h dX4_ratedPower_12 rfl rfl ?_
    refine r_callS2 (pc' := 16) (M := mX4_valueAt) h hm dX4_ratedPower_13 rfl lX4_102 vX4_valueAt (Nat.le_of_ble_eq_true rfl) (rrb rfl) (kX4_valueAt hD.f0.l3 hD.f0.r3 (by decide) ?_)
    show AW X G _ _ _ _ _ _ _ _
    refine r_ireturn h hm dX4_ratedPower_16 (Nat.le_of_ble_eq_true rfl) (Nat.le_of_ble_eq_true rfl) ?_
    exact kO hk (by simp [c0])
  · show K (.inr _) _
    exact kO hk (by simp [c1])
theorem kX4_isRunning {l : Launch} {G : GX} {N : Nat} {S : Nat → va_E} {K : RK} {D : DM} (hD : isD G N S D) {t : Int32} (hk : K (if hasT (dF D 0) t then .inl (some (.int (b2i (inSt (dF D 0) t 1)))) else .inr eI) S) : RetK l G N mX4_isRunning (8, 124, 1, 6) [.ref (ad G 0), .int t] S K := by
  refine ret_enter (by decide +kernel) (Nat.le_of_ble_eq_true rfl) (fun X hX h hm => ?_)
  subst hX
  replace h : OK X G N cX4_isRunning RX4 2 (8, 124, 1, 6) := h
  replace hm : OKm X G N K (some .boolean) (8, 124, 1, 6) := hm
  show AW X G 2 N 0 [(0, _), (1, _)] [] S 0 0
  refine r_aload_n (pc' := 1) h dX4_isRunning_0 rfl rfl ?_
  refine r_iload_n (pc' := 2) h dX4_isRunning_1 rfl rfl ?_
  refine r_callV1 (pc' := 5) (M := mX4_requireTurbine) h hm dX4_isRunning_2 rfl lX4_94 vX4_requireTurbine rfl hD.l0 hD.o0 (Nat.le_of_ble_eq_true rfl) (rrb rfl) (kX4_requireTurbine hD (fun c0 => ?_) (fun c1 => ?_))
  · show AW X G _ _ _ _ _ _ _ _
    refine r_aload_n (pc' := 6) h dX4_isRunning_5 rfl rfl ?_
    refine gX4_10 (pc' := 9) h dX4_isRunning_6 rfl hD.l0 hD.o0 rfl ?_
    refine r_iload_n (pc' := 10) h dX4_isRunning_9 rfl rfl ?_
    refine r_iconst (pc' := 11) (v := 1) h dX4_isRunning_10 rfl (by decide) ?_
    refine r_callV2 (pc' := 14) (M := mX1_isInState) h hm dX4_isRunning_11 rfl lX4_112 vX1_isInState rfl hD.f0.l0 hD.f0.o (Nat.le_of_ble_eq_true rfl) (rrb rfl) (kX1_isInState hD.f0 ?_)
    show AW X G _ _ _ _ _ _ _ _
    refine r_zreturn h hm dX4_isRunning_14 (Nat.le_of_ble_eq_true rfl) (Nat.le_of_ble_eq_true rfl) (by first | rfl | exact nar_b _) ?_
    exact kO hk (by simp [c0])
  · show K (.inr _) _
    exact kO hk (by simp [c1])
theorem kX4_isFailed {l : Launch} {G : GX} {N : Nat} {S : Nat → va_E} {K : RK} {D : DM} (hD : isD G N S D) {t : Int32} (hk : K (if hasT (dF D 0) t then .inl (some (.int (b2i (inSt (dF D 0) t 2)))) else .inr eI) S) : RetK l G N mX4_isFailed (8, 124, 1, 6) [.ref (ad G 0), .int t] S K := by
  refine ret_enter (by decide +kernel) (Nat.le_of_ble_eq_true rfl) (fun X hX h hm => ?_)
  subst hX
  replace h : OK X G N cX4_isFailed RX4 2 (8, 124, 1, 6) := h
  replace hm : OKm X G N K (some .boolean) (8, 124, 1, 6) := hm
  show AW X G 2 N 0 [(0, _), (1, _)] [] S 0 0
  refine r_aload_n (pc' := 1) h dX4_isFailed_0 rfl rfl ?_
  refine r_iload_n (pc' := 2) h dX4_isFailed_1 rfl rfl ?_
  refine r_callV1 (pc' := 5) (M := mX4_requireTurbine) h hm dX4_isFailed_2 rfl lX4_94 vX4_requireTurbine rfl hD.l0 hD.o0 (Nat.le_of_ble_eq_true rfl) (rrb rfl) (kX4_requireTurbine hD (fun c0 => ?_) (fun c1 => ?_))
  · show AW X G _ _ _ _ _ _ _ _
    refine r_aload_n (pc' := 6) h dX4_isFailed_5 rfl rfl ?_
    refine gX4_10 (pc' := 9) h dX4_isFailed_6 rfl hD.l0 hD.o0 rfl ?_
    refine r_iload_n (pc' := 10) h dX4_isFailed_9 rfl rfl ?_
    refine r_iconst (pc' := 11) (v := 2) h dX4_isFailed_10 rfl (by decide) ?_
    refine r_callV2 (pc' := 14) (M := mX1_isInState) h hm dX4_isFailed_11 rfl lX4_112 vX1_isInState rfl hD.f0.l0 hD.f0.o (Nat.le_of_ble_eq_true rfl) (rrb rfl) (kX1_isInState hD.f0 ?_)
    show AW X G _ _ _ _ _ _ _ _
    refine r_zreturn h hm dX4_isFailed_14 (Nat.le_of_ble_eq_true rfl) (Nat.le_of_ble_eq_true rfl) (by first | rfl | exact nar_b _) ?_
    exact kO hk (by simp [c0])
  · show K (.inr _) _
    exact kO hk (by simp [c1])
theorem kX4_isInService {l : Launch} {G : GX} {N : Nat} {S : Nat → va_E} {K : RK} {D : DM} (hD : isD G N S D) {t : Int32} (hk : K (if hasT (dF D 0) t then .inl (some (.int (b2i (inSt (dF D 0) t 3)))) else .inr eI) S) : RetK l G N mX4_isInService (8, 124, 1, 6) [.ref (ad G 0), .int t] S K := by
  refine ret_enter (by decide +kernel) (Nat.le_of_ble_eq_true rfl) (fun X hX h hm => ?_)
  subst hX
  replace h : OK X G N cX4_isInService RX4 2 (8, 124, 1, 6) := h
  replace hm : OKm X G N K (some .boolean) (8, 124, 1, 6) := hm
  show AW X G 2 N 0 [(0, _), (1, _)] [] S 0 0
  refine r_aload_n (pc' := 1) h dX4_isInService_0 rfl rfl ?_
  refine r_iload_n (pc' := 2) h dX4_isInService_1 rfl rfl ?_
  refine r_callV1 (pc' := 5) (M := mX4_requireTurbine) h hm dX4_isInService_2 rfl lX4_94 vX4_requireTurbine rfl hD.l0 hD.o0 (Nat.le_of_ble_eq_true rfl) (rrb rfl) (kX4_requireTurbine hD (fun c0 => ?_) (fun c1 => ?_))
  · show AW X G _ _ _ _ _ _ _ _
    refine r_aload_n (pc' := 6) h dX4_isInService_5 rfl rfl ?_
    refine gX4_10 (pc' := 9) h dX4_isInService_6 rfl hD.l0 hD.o0 rfl ?_
    refine r_iload_n (pc' := 10) h dX4_isInService_9 rfl rfl ?_
    refine r_iconst (pc' := 11) (v := 3) h dX4_isInService_10 rfl (by decide) ?_
    refine r_callV2 (pc' := 14) (M := mX1_isInState) h hm dX4_isInService_11 rfl lX4_112 vX1_isInState rfl hD.f0.l0 hD.f0.o (Nat.le_of_ble_eq_true rfl) (rrb rfl) (kX1_isInState hD.f0 ?_)
    show AW X G _ _ _ _ _ _ _ _
    refine r_zreturn h hm dX4_isInService_14 (Nat.le_of_ble_eq_true rfl) (Nat.le_of_ble_eq_true rfl) (by first | rfl | exact nar_b _) ?_
    exact kO hk (by simp [c0])
  · show K (.inr _) _
    exact kO hk (by simp [c1])
theorem kX4_wakeLoss {l : Launch} {G : GX} {N : Nat} {S : Nat → va_E} {K : RK} {D : DM} (hD : isD G N S D) {t : Int32} (hk : K (if hasT (dF D 0) t then .inl (some (.int (los (dF D 0) t (fI (dF D 0) 1)))) else .inr eI) S) : RetK l G N mX4_wakeLoss (8, 124, 1, 6) [.ref (ad G 0), .int t] S K := by
  refine ret_enter (by decide +kernel) (Nat.le_of_ble_eq_true rfl) (fun X hX h hm => ?_)
  subst hX
  replace h : OK X G N cX4_wakeLoss RX4 2 (8, 124, 1, 6) := h
  replace hm : OKm X G N K (some .int) (8, 124, 1, 6) := hm
  show AW X G 2 N 0 [(0, _), (1, _)] [] S 0 0
  refine r_aload_n (pc' := 1) h dX4_wakeLoss_0 rfl rfl ?_
  refine r_iload_n (pc' := 2) h dX4_wakeLoss_1 rfl rfl ?_
  refine r_callV1 (pc' := 5) (M := mX4_requireTurbine) h hm dX4_wakeLoss_2 rfl lX4_94 vX4_requireTurbine rfl hD.l0 hD.o0 (Nat.le_of_ble_eq_true rfl) (rrb rfl) (kX4_requireTurbine hD (fun c0 => ?_) (fun c1 => ?_))
  · show AW X G _ _ _ _ _ _ _ _
    refine r_aload_n (pc' := 6) h dX4_wakeLoss_5 rfl rfl ?_
    refine gX4_10 (pc' := 9) h dX4_wakeLoss_6 rfl hD.l0 hD.o0 rfl ?_
    refine r_iload_n (pc' := 10) h dX4_wakeLoss_9 rfl rfl ?_
    refine r_aload_n (pc' := 11) h dX4_wakeLoss_10 rfl rfl ?_
    refine gX4_10 (pc' := 14) h dX4_wakeLoss_11 rfl hD.l0 hD.o0 rfl ?_
    refine gX4_137 (pc' := 17) h dX4_wakeLoss_14 rfl hD.f0.l0 hD.f0.o rfl ?_
    refine r_callV2 (pc' := 20) (M := mX1_lossIn) h hm dX4_wakeLoss_17 rfl lX4_147 vX1_lossIn rfl hD.f0.l0 hD.f0.o (Nat.le_of_ble_eq_true rfl) (rrb rfl) (kX1_lossIn hD.f0 ?_)
    show AW X G _ _ _ _ _ _ _ _
    refine r_ireturn h hm dX4_wakeLoss_20 (Nat.le_of_ble_eq_true rfl) (Nat.le_of_ble_eq_true rfl) ?_
    exact kO hk (by simp [c0])
  · show K (.inr _) _
    exact kO hk (by simp [c1])
theorem kX4_availablePower {l : Launch} {G : GX} {N : Nat} {S : Nat → va_E} {K : RK} {D : DM} (hD : isD G N S D) {t : Int32} (hk : K (if hasT (dF D 0) t then .inl (some (.int (pwr (dF D 0) t (fI (dF D 0) 2) (los (dF D 0) t (fI (dF D 0) 1))))) else .inr eI) S) : RetK l G N mX4_availablePower (8, 124, 1, 6) [.ref (ad G 0), .int t] S K := by
  refine ret_enter (by decide +kernel) (Nat.le_of_ble_eq_true rfl) (fun X hX h hm => ?_)
  subst hX
  replace h : OK X G N cX4_availablePower RX4 2 (8, 124, 1, 6) := h
  replace hm : OKm X G N K (some .int) (8, 124, 1, 6) := hm
  show AW X G 2 N 0 [(0, _), (1, _)] [] S 0 0
  refine r_aload_n (pc' := 1) h dX4_availablePower_0 rfl rfl ?_
  refine r_iload_n (pc' := 2) h dX4_availablePower_1 rfl rfl ?_
  refine r_callV1 (pc' := 5) (M := mX4_requireTurbine) h hm dX4_availablePower_2 rfl lX4_94 vX4_requireTurbine rfl hD.l0 hD.o0 (Nat.le_of_ble_eq_true rfl) (rrb rfl) (kX4_requireTurbine hD (fun c0 => ?_) (fun c1 => ?_))
  · show AW X G _ _ _ _ _ _ _ _
    refine r_aload_n (pc' := 6) h dX4_availablePower_5 rfl rfl ?_
    refine gX4_10 (pc' := 9) h dX4_availablePower_6 rfl hD.l0 hD.o0 rfl ?_
    refine r_iload_n (pc' := 10) h dX4_availablePower_9 rfl rfl ?_
    refine r_aload_n (pc' := 11) h dX4_availablePower_10 rfl rfl ?_
    refine gX4_10 (pc' := 14) h dX4_availablePower_11 rfl hD.l0 hD.o0 rfl ?_
    refine gX4_141 (pc' := 17) h dX4_availablePower_14 rfl hD.f0.l0 hD.f0.o rfl ?_
    refine r_aload_n (pc' := 18) h dX4_availablePower_17 rfl rfl ?_
    refine gX4_10 (pc' := 21) h dX4_availablePower_18 rfl hD.l0 hD.o0 rfl ?_
    refine r_iload_n (pc' := 22) h dX4_availablePower_21 rfl rfl ?_
    refine r_aload_n (pc' := 23) h dX4_availablePower_22 rfl rfl ?_
    refine gX4_10 (pc' := 26) h dX4_availablePower_23 rfl hD.l0 hD.o0 rfl ?_
    refine gX4_137 (pc' := 29) h dX4_availablePower_26 rfl hD.f0.l0 hD.f0.o rfl ?_
    refine r_callV2 (pc' := 32) (M := mX1_lossIn) h hm dX4_availablePower_29 rfl lX4_147 vX1_lossIn rfl hD.f0.l0 hD.f0.o (Nat.le_of_ble_eq_true rfl) (rrb rfl) (kX1_lossIn hD.f0 ?_)
    show AW X G _ _ _ _ _ _ _ _
    refine r_callV3 (pc' := 35) (M := mX1_powerAfter) h hm dX4_availablePower_32 rfl lX4_151 vX1_powerAfter rfl hD.f0.l0 hD.f0.o (Nat.le_of_ble_eq_true rfl) (rrb rfl) (kX1_powerAfter hD.f0 ?_)
    show AW X G _ _ _ _ _ _ _ _
    refine r_ireturn h hm dX4_availablePower_35 (Nat.le_of_ble_eq_true rfl) (Nat.le_of_ble_eq_true rfl) ?_
    exact kO hk (by simp [c0])
  · show K (.inr _) _
    exact kO hk (by simp [c1])
theorem kX4_outputOf {l : Launch} {G : GX} {N : Nat} {S : Nat → va_E} {K : RK} {D : DM} (hD : isD G N S D) {t : Int32} (hk : K (if hasT (dF D 0) t then .inl (some (.int (outp (dF D 0) t (fI (dF D 0) 1) (fI (dF D 0) 2)))) else .inr eI) S) : RetK l G N mX4_outputOf (8, 124, 1, 6) [.ref (ad G 0), .int t] S K := by
  refine ret_enter (by decide +kernel) (Nat.le_of_ble_eq_true rfl) (fun X hX h hm => ?_)
  subst hX
  replace h : OK X G N cX4_outputOf RX4 2 (8, 124, 1, 6) := h
  replace hm : OKm X G N K (some .int) (8, 124, 1, 6) := hm
  show AW X G 2 N 0 [(0, _), (1, _)] [] S 0 0
  refine r_aload_n (pc' := 1) h dX4_outputOf_0 rfl rfl ?_
  refine r_iload_n (pc' := 2) h dX4_outputOf_1 rfl rfl ?_
  refine r_callV1 (pc' := 5) (M := mX4_requireTurbine) h hm dX4_outputOf_2 rfl lX4_94 vX4_requireTurbine rfl hD.l0 hD.o0 (Nat.le_of_ble_eq_true rfl) (rrb rfl) (kX4_requireTurbine hD (fun c0 => ?_) (fun c1 => ?_))
  · show AW X G _ _ _ _ _ _ _ _
    refine r_aload_n (pc' := 6) h dX4_outputOf_5 rfl rfl ?_
    refine gX4_10 (pc' := 9) h dX4_outputOf_6 rfl hD.l0 hD.o0 rfl ?_
    refine r_iload_n (pc' := 10) h dX4_outputOf_9 rfl rfl ?_
    refine r_aload_n (pc' := 11) h dX4_outputOf_10 rfl rfl ?_
    refine gX4_10 (pc' := 14) h dX4_outputOf_11 rfl hD.l0 hD.o0 rfl ?_
    refine gX4_137 (pc' := 17) h dX4_outputOf_14 rfl hD.f0.l0 hD.f0.o rfl ?_
    refine r_aload_n (pc' := 18) h dX4_outputOf_17 rfl rfl ?_
    refine gX4_10 (pc' := 21) h dX4_outputOf_18 rfl hD.l0 hD.o0 rfl ?_
    refine gX4_141 (pc' := 24) h dX4_outputOf_21 rfl hD.f0.l0 hD.f0.o rfl ?_
    refine r_callV3 (pc' := 27) (M := mX1_outputIn) h hm dX4_outputOf_24 rfl lX4_154 vX1_outputIn rfl hD.f0.l0 hD.f0.o (Nat.le_of_ble_eq_true rfl) (rrb rfl) (kX1_outputIn hD.f0 ?_)
    show AW X G _ _ _ _ _ _ _ _
    refine r_ireturn h hm dX4_outputOf_27 (Nat.le_of_ble_eq_true rfl) (Nat.le_of_ble_eq_true rfl) ?_
    exact kO hk (by simp [c0])
  · show K (.inr _) _
    exact kO hk (by simp [c1])
theorem kX4_limitOf {l : Launch} {G : GX} {N : Nat} {S : Nat → va_E} {K : RK} {D : DM} (hD : isD G N S D) {t : Int32} (hk : K (if hasT (dF D 0) t then (if curt (dF D 0) t then .inl (some (.int (vAt 12 (fA (dF D 0) 4) t))) else .inr eN) else .inr eI) S) : RetK l G N mX4_limitOf (8, 124, 2, 12) [.ref (ad G 0), .int t] S K := by
  refine ret_enter (by decide +kernel) (Nat.le_of_ble_eq_true rfl) (fun X hX h hm => ?_)
  subst hX
  replace h : OK X G N cX4_limitOf RX4 2 (8, 124, 2, 12) := h
  replace hm : OKm X G N K (some .int) (8, 124, 2, 12) := hm
  show AW X G 2 N 0 [(0, _), (1, _)] [] S 0 0
  refine r_aload_n (pc' := 1) h dX4_limitOf_0 rfl rfl ?_
  refine r_iload_n (pc' := 2) h dX4_limitOf_1 rfl rfl ?_
  refine r_callV1 (pc' := 5) (M := mX4_requireTurbine) h hm dX4_limitOf_2 rfl lX4_94 vX4_requireTurbine rfl hD.l0 hD.o0 (Nat.le_of_ble_eq_true rfl) (rrb rfl) (kX4_requireTurbine hD (fun c0 => ?_) (fun c1 => ?_))
  · show AW X G _ _ _ _ _ _ _ _
    refine r_aload_n (pc' := 6) h dX4_limitOf_5 rfl rfl ?_
    refine gX4_10 (pc' := 9) h dX4_limitOf_6 rfl hD.l0 hD.o0 rfl ?_
    refine r_iload_n (pc' := 10) h dX4_limitOf_9 rfl rfl ?_
    refine r_callV1 (pc' := 13) (M := mX1_isCurtailed) h hm dX4_limitOf_10 rfl lX4_115 vX1_isCurtailed rfl hD.f0.l0 hD.f0.o (Nat.le_of_ble_eq_true rfl) (rrb rfl) (kX1_isCurtailed hD.f0 ?_)
    show AW X G _ _ _ _ _ _ _ _
    refine r_if_neb (tgt := 26) (pc' := 16) h dX4_limitOf_13 (by decide) rfl (fun c2 => ?_) (fun c2 => ?_)
    · refine r_aload_n (pc' := 27) h dX4_limitOf_26 rfl rfl ?_
      refine gX4_10 (pc' := 30) h dX4_limitOf_27 rfl hD.l0 hD.o0 rfl ?_
      refine gX4_121 (pc' := 33) h dX4_limitOf_30 rfl hD.f0.l0 hD.f0.o rfl ?_
      refine r_iload_n (pc' := 34) h dX4_limitOf_33 rfl rfl ?_
      refine r_callS2 (pc' := 37) (M := mX4_valueAt) h hm dX4_limitOf_34 rfl lX4_102 vX4_valueAt (Nat.le_of_ble_eq_true rfl) (rrb rfl) (kX4_valueAt hD.f0.l5 hD.f0.r5 (by decide) ?_)
      show AW X G _ _ _ _ _ _ _ _
      refine r_ireturn h hm dX4_limitOf_37 (Nat.le_of_ble_eq_true rfl) (Nat.le_of_ble_eq_true rfl) ?_
      exact kO hk (by simp [c0, c2])
    · refine r_throwNE h hm tX4_93 lX4_89 (i := 15) rfl dX4_limitOf_16 dX4_limitOf_19 (Or.inl ⟨dX4_limitOf_20, rfl⟩) dX4_limitOf_22 dX4_limitOf_25 (rrt rfl) ⟨rfl, rfl, rfl⟩ ?_
      exact kO hk (by simp [c0, c2])
  · show K (.inr _) _
    exact kO hk (by simp [c1])
theorem kX4_serviceHoursLeft {l : Launch} {G : GX} {N : Nat} {S : Nat → va_E} {K : RK} {D : DM} (hD : isD G N S D) {t : Int32} (hk : K (if hasT (dF D 0) t then (if inSt (dF D 0) t 3 then .inl (some (.int (vAt 12 (fA (dF D 0) 5) t))) else .inr eN) else .inr eI) S) : RetK l G N mX4_serviceHoursLeft (8, 124, 2, 12) [.ref (ad G 0), .int t] S K := by
  refine ret_enter (by decide +kernel) (Nat.le_of_ble_eq_true rfl) (fun X hX h hm => ?_)
  subst hX
  replace h : OK X G N cX4_serviceHoursLeft RX4 2 (8, 124, 2, 12) := h
  replace hm : OKm X G N K (some .int) (8, 124, 2, 12) := hm
  show AW X G 2 N 0 [(0, _), (1, _)] [] S 0 0
  refine r_aload_n (pc' := 1) h dX4_serviceHoursLeft_0 rfl rfl ?_
  refine r_iload_n (pc' := 2) h dX4_serviceHoursLeft_1 rfl rfl ?_
  refine r_callV1 (pc' := 5) (M := mX4_requireTurbine) h hm dX4_serviceHoursLeft_2 rfl lX4_94 vX4_requireTurbine rfl hD.l0 hD.o0 (Nat.le_of_ble_eq_true rfl) (rrb rfl) (kX4_requireTurbine hD (fun c0 => ?_) (fun c1 => ?_))
  · show AW X G _ _ _ _ _ _ _ _
    refine r_aload_n (pc' := 6) h dX4_serviceHoursLeft_5 rfl rfl ?_
    refine gX4_10 (pc' := 9) h dX4_serviceHoursLeft_6 rfl hD.l0 hD.o0 rfl ?_
    refine r_iload_n (pc' := 10) h dX4_serviceHoursLeft_9 rfl rfl ?_
    refine r_iconst (pc' := 11) (v := 3) h dX4_serviceHoursLeft_10 rfl (by decide) ?_
    refine r_callV2 (pc' := 14) (M := mX1_isInState) h hm dX4_serviceHoursLeft_11 rfl lX4_112 vX1_isInState rfl hD.f0.l0 hD.f0.o (Nat.le_of_ble_eq_true rfl) (rrb rfl) (kX1_isInState hD.f0 ?_)
    show AW X G _ _ _ _ _ _ _ _
    refine r_if_neb (tgt := 27) (pc' := 17) h dX4_serviceHoursLeft_14 (by decide) rfl (fun c2 => ?_) (fun c2 => ?_)
    · refine r_aload_n (pc' := 28) h dX4_serviceHoursLeft_27 rfl rfl ?_
      refine gX4_10 (pc' := 31) h dX4_serviceHoursLeft_28 rfl hD.l0 hD.o0 rfl ?_
      refine gX4_126 (pc' := 34) h dX4_serviceHoursLeft_31 rfl hD.f0.l0 hD.f0.o rfl ?_
      refine r_iload_n (pc' := 35) h dX4_serviceHoursLeft_34 rfl rfl ?_
      refine r_callS2 (pc' := 38) (M := mX4_valueAt) h hm dX4_serviceHoursLeft_35 rfl lX4_102 vX4_valueAt (Nat.le_of_ble_eq_true rfl) (rrb rfl) (kX4_valueAt hD.f0.l6 hD.f0.r6 (by decide) ?_)
      show AW X G _ _ _ _ _ _ _ _
      refine r_ireturn h hm dX4_serviceHoursLeft_38 (Nat.le_of_ble_eq_true rfl) (Nat.le_of_ble_eq_true rfl) ?_
      exact kO hk (by simp [c0, c2])
    · refine r_throwNE h hm tX4_93 lX4_89 (i := 16) rfl dX4_serviceHoursLeft_17 dX4_serviceHoursLeft_20 (Or.inl ⟨dX4_serviceHoursLeft_21, rfl⟩) dX4_serviceHoursLeft_23 dX4_serviceHoursLeft_26 (rrt rfl) ⟨rfl, rfl, rfl⟩ ?_
      exact kO hk (by simp [c0, c2])
  · show K (.inr _) _
    exact kO hk (by simp [c1])
theorem kX4_turbineCount {l : Launch} {G : GX} {N : Nat} {S : Nat → va_E} {K : RK} {D : DM} (hD : isD G N S D) (hk : K (.inl (some (.int (fI (dF D 0) 0)))) S) : RetK l G N mX4_turbineCount (0, 0, 0, 0) [.ref (ad G 0)] S K := by
  refine ret_enter (by decide +kernel) (Nat.le_of_ble_eq_true rfl) (fun X hX h hm => ?_)
  subst hX
  replace h : OK X G N cX4_turbineCount RX4 1 (0, 0, 0, 0) := h
  replace hm : OKm X G N K (some .int) (0, 0, 0, 0) := hm
  show AW X G 1 N 0 [(0, _)] [] S 0 0
  refine r_aload_n (pc' := 1) h dX4_turbineCount_0 rfl rfl ?_
  refine gX4_10 (pc' := 4) h dX4_turbineCount_1 rfl hD.l0 hD.o0 rfl ?_
  refine gX4_72 (pc' := 7) h dX4_turbineCount_4 rfl hD.f0.l0 hD.f0.o rfl ?_
  refine r_ireturn h hm dX4_turbineCount_7 (Nat.le_of_ble_eq_true rfl) (Nat.le_of_ble_eq_true rfl) ?_
  exact kO hk (by simp [])
theorem kX4_freeCrews {l : Launch} {G : GX} {N : Nat} {S : Nat → va_E} {K : RK} {D : DM} (hD : isD G N S D) (hw : wF (dF D 0)) (hk : K (.inl (some (.int (crews (dF D 0))))) S) : RetK l G N mX4_freeCrews (3, 65, 0, 0) [.ref (ad G 0)] S K := by
  refine ret_enter (by decide +kernel) (Nat.le_of_ble_eq_true rfl) (fun X hX h hm => ?_)
  subst hX
  replace h : OK X G N cX4_freeCrews RX4 1 (3, 65, 0, 0) := h
  replace hm : OKm X G N K (some .int) (3, 65, 0, 0) := hm
  show AW X G 1 N 0 [(0, _)] [] S 0 0
  refine r_aload_n (pc' := 1) h dX4_freeCrews_0 rfl rfl ?_
  refine gX4_10 (pc' := 4) h dX4_freeCrews_1 rfl hD.l0 hD.o0 rfl ?_
  refine r_callV0 (pc' := 7) (M := mX1_crewsLeft) h hm dX4_freeCrews_4 rfl lX4_129 vX1_crewsLeft rfl hD.f0.l0 hD.f0.o (Nat.le_of_ble_eq_true rfl) (rrb rfl) (kX1_crewsLeft hD.f0 hw ?_)
  show AW X G _ _ _ _ _ _ _ _
  refine r_ireturn h hm dX4_freeCrews_7 (Nat.le_of_ble_eq_true rfl) (Nat.le_of_ble_eq_true rfl) ?_
  exact kO hk (by simp [])
theorem kX4_windDirection {l : Launch} {G : GX} {N : Nat} {S : Nat → va_E} {K : RK} {D : DM} (hD : isD G N S D) (hch : isCh (fI (dF D 0) 1)) (hk : K (.inl (some (.int (fI (dF D 0) 1)))) S) : RetK l G N mX4_windDirection (0, 0, 0, 0) [.ref (ad G 0)] S K := by
  refine ret_enter (by decide +kernel) (Nat.le_of_ble_eq_true rfl) (fun X hX h hm => ?_)
  subst hX
  replace h : OK X G N cX4_windDirection RX4 1 (0, 0, 0, 0) := h
  replace hm : OKm X G N K (some .char) (0, 0, 0, 0) := hm
  show AW X G 1 N 0 [(0, _)] [] S 0 0
  refine r_aload_n (pc' := 1) h dX4_windDirection_0 rfl rfl ?_
  refine gX4_10 (pc' := 4) h dX4_windDirection_1 rfl hD.l0 hD.o0 rfl ?_
  refine gX4_137 (pc' := 7) h dX4_windDirection_4 rfl hD.f0.l0 hD.f0.o rfl ?_
  refine r_zreturn h hm dX4_windDirection_7 (Nat.le_of_ble_eq_true rfl) (Nat.le_of_ble_eq_true rfl) hch.1 ?_
  exact kO hk (by simp [])
theorem kX4_windSpeed {l : Launch} {G : GX} {N : Nat} {S : Nat → va_E} {K : RK} {D : DM} (hD : isD G N S D) (hk : K (.inl (some (.int (fI (dF D 0) 2)))) S) : RetK l G N mX4_windSpeed (0, 0, 0, 0) [.ref (ad G 0)] S K := by
  refine ret_enter (by decide +kernel) (Nat.le_of_ble_eq_true rfl) (fun X hX h hm => ?_)
  subst hX
  replace h : OK X G N cX4_windSpeed RX4 1 (0, 0, 0, 0) := h
  replace hm : OKm X G N K (some .int) (0, 0, 0, 0) := hm
  show AW X G 1 N 0 [(0, _)] [] S 0 0
  refine r_aload_n (pc' := 1) h dX4_windSpeed_0 rfl rfl ?_
  refine gX4_10 (pc' := 4) h dX4_windSpeed_1 rfl hD.l0 hD.o0 rfl ?_
  refine gX4_141 (pc' := 7) h dX4_windSpeed_4 rfl hD.f0.l0 hD.f0.o rfl ?_
  refine r_ireturn h hm dX4_windSpeed_7 (Nat.le_of_ble_eq_true rfl) (Nat.le_of_ble_eq_true rfl) ?_
  exact kO hk (by simp [])
theorem kX4_powerFactor {l : Launch} {G : GX} {N : Nat} {S : Nat → va_E} {K : RK} {D : DM} (hD : isD G N S D) (hk : K (.inl (some (.int (fac' (fI (dF D 0) 2))))) S) : RetK l G N mX4_powerFactor (1, 20, 0, 0) [.ref (ad G 0)] S K := by
  refine ret_enter (by decide +kernel) (Nat.le_of_ble_eq_true rfl) (fun X hX h hm => ?_)
  subst hX
  replace h : OK X G N cX4_powerFactor RX4 1 (1, 20, 0, 0) := h
  replace hm : OKm X G N K (some .int) (1, 20, 0, 0) := hm
  show AW X G 1 N 0 [(0, _)] [] S 0 0
  refine r_aload_n (pc' := 1) h dX4_powerFactor_0 rfl rfl ?_
  refine gX4_10 (pc' := 4) h dX4_powerFactor_1 rfl hD.l0 hD.o0 rfl ?_
  refine gX4_141 (pc' := 7) h dX4_powerFactor_4 rfl hD.f0.l0 hD.f0.o rfl ?_
  refine r_callS1 (pc' := 10) (M := mX4_factorOf) h hm dX4_powerFactor_7 rfl lX4_144 vX4_factorOf (Nat.le_of_ble_eq_true rfl) (rrb rfl) (kX4_factorOf ?_)
  show AW X G _ _ _ _ _ _ _ _
  refine r_ireturn h hm dX4_powerFactor_10 (Nat.le_of_ble_eq_true rfl) (Nat.le_of_ble_eq_true rfl) ?_
  exact kO hk (by simp [])
theorem kX4_totalOutput {l : Launch} {G : GX} {N : Nat} {S : Nat → va_E} {K : RK} {D : DM} (hD : isD G N S D) (hw : wF (dF D 0)) (hk : K (.inl (some (.int (sumI (dF D 0) (fI (dF D 0) 1) (fI (dF D 0) 2) (fN (dF D 0)))))) S) : RetK l G N mX4_totalOutput (4, 95, 0, 0) [.ref (ad G 0)] S K := by
  refine ret_enter (by decide +kernel) (Nat.le_of_ble_eq_true rfl) (fun X hX h hm => ?_)
  subst hX
  replace h : OK X G N cX4_totalOutput RX4 1 (4, 95, 0, 0) := h
  replace hm : OKm X G N K (some .int) (4, 95, 0, 0) := hm
  show AW X G 1 N 0 [(0, _)] [] S 0 0
  refine r_aload_n (pc' := 1) h dX4_totalOutput_0 rfl rfl ?_
  refine gX4_10 (pc' := 4) h dX4_totalOutput_1 rfl hD.l0 hD.o0 rfl ?_
  refine r_aload_n (pc' := 5) h dX4_totalOutput_4 rfl rfl ?_
  refine gX4_10 (pc' := 8) h dX4_totalOutput_5 rfl hD.l0 hD.o0 rfl ?_
  refine gX4_137 (pc' := 11) h dX4_totalOutput_8 rfl hD.f0.l0 hD.f0.o rfl ?_
  refine r_aload_n (pc' := 12) h dX4_totalOutput_11 rfl rfl ?_
  refine gX4_10 (pc' := 15) h dX4_totalOutput_12 rfl hD.l0 hD.o0 rfl ?_
  refine gX4_141 (pc' := 18) h dX4_totalOutput_15 rfl hD.f0.l0 hD.f0.o rfl ?_
  refine r_callV2 (pc' := 21) (M := mX1_sumIn) h hm dX4_totalOutput_18 rfl lX4_158 vX1_sumIn rfl hD.f0.l0 hD.f0.o (Nat.le_of_ble_eq_true rfl) (rrb rfl) (kX1_sumIn hD.f0 hw ?_)
  show AW X G _ _ _ _ _ _ _ _
  refine r_ireturn h hm dX4_totalOutput_21 (Nat.le_of_ble_eq_true rfl) (Nat.le_of_ble_eq_true rfl) ?_
  exact kO hk (by simp [])
theorem kX4_totalOutputByLines {l : Launch} {G : GX} {N : Nat} {S : Nat → va_E} {K : RK} {D : DM} (hD : isD G N S D) (hk : K (.inl (some (.int (bSum (dF D 0) (lCnt (dF D 0)))))) S) : RetK l G N mX4_totalOutputByLines (5, 116, 0, 0) [.ref (ad G 0)] S K := by
  refine ret_enter (by decide +kernel) (Nat.le_of_ble_eq_true rfl) (fun X hX h hm => ?_)
  subst hX
  replace h : OK X G N cX4_totalOutputByLines RX4 1 (5, 116, 0, 0) := h
  replace hm : OKm X G N K (some .int) (5, 116, 0, 0) := hm
  show AW X G 1 N 0 [(0, _)] [] S 0 0
  refine r_aload_n (pc' := 1) h dX4_totalOutputByLines_0 rfl rfl ?_
  refine gX4_10 (pc' := 4) h dX4_totalOutputByLines_1 rfl hD.l0 hD.o0 rfl ?_
  refine r_callV0 (pc' := 7) (M := mX1_sumByLines) h hm dX4_totalOutputByLines_4 rfl lX4_161 vX1_sumByLines rfl hD.f0.l0 hD.f0.o (Nat.le_of_ble_eq_true rfl) (rrb rfl) (kX1_sumByLines hD.f0 ?_)
  show AW X G _ _ _ _ _ _ _ _
  refine r_ireturn h hm dX4_totalOutputByLines_7 (Nat.le_of_ble_eq_true rfl) (Nat.le_of_ble_eq_true rfl) ?_
  exact kO hk (by simp [])
theorem kX4_time {l : Launch} {G : GX} {N : Nat} {S : Nat → va_E} {K : RK} {D : DM} (hD : isD G N S D) (hk : K (.inl (some (.int (fI (dF D 0) 4)))) S) : RetK l G N mX4_time (0, 0, 0, 0) [.ref (ad G 0)] S K := by
  refine ret_enter (by decide +kernel) (Nat.le_of_ble_eq_true rfl) (fun X hX h hm => ?_)
  subst hX
  replace h : OK X G N cX4_time RX4 1 (0, 0, 0, 0) := h
  replace hm : OKm X G N K (some .int) (0, 0, 0, 0) := hm
  show AW X G 1 N 0 [(0, _)] [] S 0 0
  refine r_aload_n (pc' := 1) h dX4_time_0 rfl rfl ?_
  refine gX4_10 (pc' := 4) h dX4_time_1 rfl hD.l0 hD.o0 rfl ?_
  refine gX4_224 (pc' := 7) h dX4_time_4 rfl hD.f0.l0 hD.f0.o rfl ?_
  refine r_ireturn h hm dX4_time_7 (Nat.le_of_ble_eq_true rfl) (Nat.le_of_ble_eq_true rfl) ?_
  exact kO hk (by simp [])
theorem kX4_energyMade {l : Launch} {G : GX} {N : Nat} {S : Nat → va_E} {K : RK} {D : DM} (hD : isD G N S D) (hk : K (.inl (some (.long (fL (dF D 0) 0)))) S) : RetK l G N mX4_energyMade (0, 0, 0, 0) [.ref (ad G 0)] S K := by
  refine ret_enter (by decide +kernel) (Nat.le_of_ble_eq_true rfl) (fun X hX h hm => ?_)
  subst hX
  replace h : OK X G N cX4_energyMade RX4 1 (0, 0, 0, 0) := h
  replace hm : OKm X G N K (some .long) (0, 0, 0, 0) := hm
  show AW X G 1 N 0 [(0, _)] [] S 0 0
  refine r_aload_n (pc' := 1) h dX4_energyMade_0 rfl rfl ?_
  refine gX4_10 (pc' := 4) h dX4_energyMade_1 rfl hD.l0 hD.o0 rfl ?_
  refine gX4_243 (pc' := 7) h dX4_energyMade_4 rfl hD.f0.l0 hD.f0.o rfl ?_
  refine r_lreturn h hm dX4_energyMade_7 (Nat.le_of_ble_eq_true rfl) (Nat.le_of_ble_eq_true rfl) ?_
  exact kO hk (by simp [])
theorem kX4_energyLost {l : Launch} {G : GX} {N : Nat} {S : Nat → va_E} {K : RK} {D : DM} (hD : isD G N S D) (hk : K (.inl (some (.long (fL (dF D 0) 1)))) S) : RetK l G N mX4_energyLost (0, 0, 0, 0) [.ref (ad G 0)] S K := by
  refine ret_enter (by decide +kernel) (Nat.le_of_ble_eq_true rfl) (fun X hX h hm => ?_)
  subst hX
  replace h : OK X G N cX4_energyLost RX4 1 (0, 0, 0, 0) := h
  replace hm : OKm X G N K (some .long) (0, 0, 0, 0) := hm
  show AW X G 1 N 0 [(0, _)] [] S 0 0
  refine r_aload_n (pc' := 1) h dX4_energyLost_0 rfl rfl ?_
  refine gX4_10 (pc' := 4) h dX4_energyLost_1 rfl hD.l0 hD.o0 rfl ?_
  refine gX4_246 (pc' := 7) h dX4_energyLost_4 rfl hD.f0.l0 hD.f0.o rfl ?_
  refine r_lreturn h hm dX4_energyLost_7 (Nat.le_of_ble_eq_true rfl) (Nat.le_of_ble_eq_true rfl) ?_
  exact kO hk (by simp [])
theorem kX4_energySold {l : Launch} {G : GX} {N : Nat} {S : Nat → va_E} {K : RK} {D : DM} (hD : isD G N S D) (hk : K (.inl (some (.long (fL (dF D 0) 2)))) S) : RetK l G N mX4_energySold (0, 0, 0, 0) [.ref (ad G 0)] S K := by
  refine ret_enter (by decide +kernel) (Nat.le_of_ble_eq_true rfl) (fun X hX h hm => ?_)
  subst hX
  replace h : OK X G N cX4_energySold RX4 1 (0, 0, 0, 0) := h
  replace hm : OKm X G N K (some .long) (0, 0, 0, 0) := hm
  show AW X G 1 N 0 [(0, _)] [] S 0 0
  refine r_aload_n (pc' := 1) h dX4_energySold_0 rfl rfl ?_
  refine gX4_10 (pc' := 4) h dX4_energySold_1 rfl hD.l0 hD.o0 rfl ?_
  refine gX4_249 (pc' := 7) h dX4_energySold_4 rfl hD.f0.l0 hD.f0.o rfl ?_
  refine r_lreturn h hm dX4_energySold_7 (Nat.le_of_ble_eq_true rfl) (Nat.le_of_ble_eq_true rfl) ?_
  exact kO hk (by simp [])
theorem kX4_energySpilled {l : Launch} {G : GX} {N : Nat} {S : Nat → va_E} {K : RK} {D : DM} (hD : isD G N S D) (hk : K (.inl (some (.long (fL (dF D 0) 3)))) S) : RetK l G N mX4_energySpilled (0, 0, 0, 0) [.ref (ad G 0)] S K := by
  refine ret_enter (by decide +kernel) (Nat.le_of_ble_eq_true rfl) (fun X hX h hm => ?_)
  subst hX
  replace h : OK X G N cX4_energySpilled RX4 1 (0, 0, 0, 0) := h
  replace hm : OKm X G N K (some .long) (0, 0, 0, 0) := hm
  show AW X G 1 N 0 [(0, _)] [] S 0 0
  refine r_aload_n (pc' := 1) h dX4_energySpilled_0 rfl rfl ?_
  refine gX4_10 (pc' := 4) h dX4_energySpilled_1 rfl hD.l0 hD.o0 rfl ?_
  refine gX4_252 (pc' := 7) h dX4_energySpilled_4 rfl hD.f0.l0 hD.f0.o rfl ?_
  refine r_lreturn h hm dX4_energySpilled_7 (Nat.le_of_ble_eq_true rfl) (Nat.le_of_ble_eq_true rfl) ?_
  exact kO hk (by simp [])
theorem kX4_isConsistent {l : Launch} {G : GX} {N : Nat} {S : Nat → va_E} {K : RK} {D : DM} (hD : isD G N S D) (hw : wF (dF D 0)) (hk : K (.inl (some (.int (b2i (zCon (dF D 0)))))) S) : RetK l G N mX4_isConsistent (5, 116, 0, 0) [.ref (ad G 0)] S K := by
  refine ret_enter (by decide +kernel) (Nat.le_of_ble_eq_true rfl) (fun X hX h hm => ?_)
  subst hX
  replace h : OK X G N cX4_isConsistent RX4 1 (5, 116, 0, 0) := h
  replace hm : OKm X G N K (some .boolean) (5, 116, 0, 0) := hm
  show AW X G 1 N 0 [(0, _)] [] S 0 0
  refine r_aload_n (pc' := 1) h dX4_isConsistent_0 rfl rfl ?_
  refine gX4_10 (pc' := 4) h dX4_isConsistent_1 rfl hD.l0 hD.o0 rfl ?_
  refine r_aload_n (pc' := 5) h dX4_isConsistent_4 rfl rfl ?_
  refine gX4_10 (pc' := 8) h dX4_isConsistent_5 rfl hD.l0 hD.o0 rfl ?_
  refine gX4_137 (pc' := 11) h dX4_isConsistent_8 rfl hD.f0.l0 hD.f0.o rfl ?_
  refine r_aload_n (pc' := 12) h dX4_isConsistent_11 rfl rfl ?_
  refine gX4_10 (pc' := 15) h dX4_isConsistent_12 rfl hD.l0 hD.o0 rfl ?_
  refine gX4_141 (pc' := 18) h dX4_isConsistent_15 rfl hD.f0.l0 hD.f0.o rfl ?_
  refine r_callV2 (pc' := 21) (M := mX1_sumIn) h hm dX4_isConsistent_18 rfl lX4_158 vX1_sumIn rfl hD.f0.l0 hD.f0.o (Nat.le_of_ble_eq_true rfl) (rrb rfl) (kX1_sumIn hD.f0 hw ?_)
  show AW X G _ _ _ _ _ _ _ _
  refine r_aload_n (pc' := 22) h dX4_isConsistent_21 rfl rfl ?_
  refine gX4_10 (pc' := 25) h dX4_isConsistent_22 rfl hD.l0 hD.o0 rfl ?_
  refine r_callV0 (pc' := 28) (M := mX1_sumByLines) h hm dX4_isConsistent_25 rfl lX4_161 vX1_sumByLines rfl hD.f0.l0 hD.f0.o (Nat.le_of_ble_eq_true rfl) (rrb rfl) (kX1_sumByLines hD.f0 ?_)
  show AW X G _ _ _ _ _ _ _ _
  refine r_icmp_ne (tgt := 79) (pc' := 31) h dX4_isConsistent_28 (by decide) rfl (fun c0 => ?_) (fun c0 => ?_)
  · refine r_iconst (pc' := 80) (v := 0) h dX4_isConsistent_79 rfl (by decide) ?_
    refine r_zreturn h hm dX4_isConsistent_80 (Nat.le_of_ble_eq_true rfl) (Nat.le_of_ble_eq_true rfl) (by first | rfl | exact nar_b _) ?_
    exact kO hk (by simp [zCon, b2i, c0])
  · refine r_aload_n (pc' := 32) h dX4_isConsistent_31 rfl rfl ?_
    refine gX4_10 (pc' := 35) h dX4_isConsistent_32 rfl hD.l0 hD.o0 rfl ?_
    refine gX4_243 (pc' := 38) h dX4_isConsistent_35 rfl hD.f0.l0 hD.f0.o rfl ?_
    refine r_aload_n (pc' := 39) h dX4_isConsistent_38 rfl rfl ?_
    refine gX4_10 (pc' := 42) h dX4_isConsistent_39 rfl hD.l0 hD.o0 rfl ?_
    refine gX4_246 (pc' := 45) h dX4_isConsistent_42 rfl hD.f0.l0 hD.f0.o rfl ?_
    refine r_aload_n (pc' := 46) h dX4_isConsistent_45 rfl rfl ?_
    refine gX4_10 (pc' := 49) h dX4_isConsistent_46 rfl hD.l0 hD.o0 rfl ?_
    refine gX4_249 (pc' := 52) h dX4_isConsistent_49 rfl hD.f0.l0 hD.f0.o rfl ?_
    refine r_ladd (pc' := 53) h dX4_isConsistent_52 rfl ?_
    refine r_aload_n (pc' := 54) h dX4_isConsistent_53 rfl rfl ?_
    refine gX4_10 (pc' := 57) h dX4_isConsistent_54 rfl hD.l0 hD.o0 rfl ?_
    refine gX4_252 (pc' := 60) h dX4_isConsistent_57 rfl hD.f0.l0 hD.f0.o rfl ?_
    refine r_ladd (pc' := 61) h dX4_isConsistent_60 rfl ?_
    refine r_lcmp (pc' := 62) h dX4_isConsistent_61 rfl ?_
    refine r_if_ne (tgt := 79) (pc' := 65) h dX4_isConsistent_62 (by decide) rfl (fun c1 => ?_) (fun c1 => ?_)
    · refine r_iconst (pc' := 80) (v := 0) h dX4_isConsistent_79 rfl (by decide) ?_
      refine r_zreturn h hm dX4_isConsistent_80 (Nat.le_of_ble_eq_true rfl) (Nat.le_of_ble_eq_true rfl) (by first | rfl | exact nar_b _) ?_
      exact kO hk (by simp [zCon, b2i, c0, c1])
    · refine r_aload_n (pc' := 66) h dX4_isConsistent_65 rfl rfl ?_
      refine gX4_10 (pc' := 69) h dX4_isConsistent_66 rfl hD.l0 hD.o0 rfl ?_
      refine r_callV0 (pc' := 72) (M := mX1_crewsLeft) h hm dX4_isConsistent_69 rfl lX4_129 vX1_crewsLeft rfl hD.f0.l0 hD.f0.o (Nat.le_of_ble_eq_true rfl) (rrb rfl) (kX1_crewsLeft hD.f0 hw ?_)
      show AW X G _ _ _ _ _ _ _ _
      refine r_if_lt (tgt := 79) (pc' := 75) h dX4_isConsistent_72 (by decide) rfl (fun c2 => ?_) (fun c2 => ?_)
      · refine r_iconst (pc' := 80) (v := 0) h dX4_isConsistent_79 rfl (by decide) ?_
        refine r_zreturn h hm dX4_isConsistent_80 (Nat.le_of_ble_eq_true rfl) (Nat.le_of_ble_eq_true rfl) (by first | rfl | exact nar_b _) ?_
        exact kO hk (by simp [zCon, b2i, c0, c1, c2])
      · refine r_iconst (pc' := 76) (v := 1) h dX4_isConsistent_75 rfl (by decide) ?_
        refine r_goto (tgt := 80) h dX4_isConsistent_76 (by decide) ?_
        refine r_zreturn h hm dX4_isConsistent_80 (Nat.le_of_ble_eq_true rfl) (Nat.le_of_ble_eq_true rfl) (by first | rfl | exact nar_b _) ?_
        exact kO hk (by simp [zCon, b2i, c0, c1, c2])
theorem kX4_meanOutput {l : Launch} {G : GX} {N : Nat} {S : Nat → va_E} {K : RK} {D : DM} (hD : isD G N S D) (hw : wF (dF D 0)) (hn : ¬ fI (dF D 0) 0 ≤ 0 → vf_n64 (FP.ddiv (FP.i2d (sumI (dF D 0) (fI (dF D 0) 1) (fI (dF D 0) 2) (fN (dF D 0)))) (FP.i2d (fI (dF D 0) 0)))) (hk : K (if fI (dF D 0) 0 ≤ 0 then .inr eX else .inl (some (.double (FP.ddiv (FP.i2d (sumI (dF D 0) (fI (dF D 0) 1) (fI (dF D 0) 2) (fN (dF D 0)))) (FP.i2d (fI (dF D 0) 0)))))) S) : RetK l G N mX4_meanOutput (7, 103, 1, 6) [.ref (ad G 0)] S K := by
  refine ret_enter (by decide +kernel) (Nat.le_of_ble_eq_true rfl) (fun X hX h hm => ?_)
  subst hX
  replace h : OK X G N cX4_meanOutput RX4 1 (7, 103, 1, 6) := h
  replace hm : OKm X G N K (some .double) (7, 103, 1, 6) := hm
  show AW X G 1 N 0 [(0, _)] [] S 0 0
  refine r_aload_n (pc' := 1) h dX4_meanOutput_0 rfl rfl ?_
  refine gX4_10 (pc' := 4) h dX4_meanOutput_1 rfl hD.l0 hD.o0 rfl ?_
  refine gX4_72 (pc' := 7) h dX4_meanOutput_4 rfl hD.f0.l0 hD.f0.o rfl ?_
  refine r_if_gt (tgt := 21) (pc' := 10) h dX4_meanOutput_7 (by decide) rfl (fun c0 => ?_) (fun c0 => ?_)
  · refine r_aload_n (pc' := 22) h dX4_meanOutput_21 rfl rfl ?_
    refine gX4_10 (pc' := 25) h dX4_meanOutput_22 rfl hD.l0 hD.o0 rfl ?_
    refine r_aload_n (pc' := 26) h dX4_meanOutput_25 rfl rfl ?_
    refine gX4_10 (pc' := 29) h dX4_meanOutput_26 rfl hD.l0 hD.o0 rfl ?_
    refine gX4_137 (pc' := 32) h dX4_meanOutput_29 rfl hD.f0.l0 hD.f0.o rfl ?_
    refine r_aload_n (pc' := 33) h dX4_meanOutput_32 rfl rfl ?_
    refine gX4_10 (pc' := 36) h dX4_meanOutput_33 rfl hD.l0 hD.o0 rfl ?_
    refine gX4_141 (pc' := 39) h dX4_meanOutput_36 rfl hD.f0.l0 hD.f0.o rfl ?_
    refine r_callV2 (pc' := 42) (M := mX1_sumIn) h hm dX4_meanOutput_39 rfl lX4_158 vX1_sumIn rfl hD.f0.l0 hD.f0.o (Nat.le_of_ble_eq_true rfl) (rrb rfl) (kX1_sumIn hD.f0 hw ?_)
    show AW X G _ _ _ _ _ _ _ _
    refine r_i2d (pc' := 43) h dX4_meanOutput_42 rfl ?_
    refine r_aload_n (pc' := 44) h dX4_meanOutput_43 rfl rfl ?_
    refine gX4_10 (pc' := 47) h dX4_meanOutput_44 rfl hD.l0 hD.o0 rfl ?_
    refine gX4_72 (pc' := 50) h dX4_meanOutput_47 rfl hD.f0.l0 hD.f0.o rfl ?_
    refine r_i2d (pc' := 51) h dX4_meanOutput_50 rfl ?_
    refine r_ddiv (pc' := 52) h dX4_meanOutput_51 rfl (hn (Int32.not_le.mpr c0)) ?_
    refine r_dreturn h hm dX4_meanOutput_52 (Nat.le_of_ble_eq_true rfl) (Nat.le_of_ble_eq_true rfl) ?_
    exact kO hk (if_neg (Int32.not_le.mpr c0))
  · refine r_throwW h hm tX4_264 lX4_260 (i := 23) rfl dX4_meanOutput_10 dX4_meanOutput_13 dX4_meanOutput_14 dX4_meanOutput_17 dX4_meanOutput_20 (rrt rfl) ⟨rfl, rfl, rfl, rfl⟩ ?_
    exact kO hk (if_pos (Int32.not_lt.mp c0))
theorem kX4_runningShare {l : Launch} {G : GX} {N : Nat} {S : Nat → va_E} {K : RK} {D : DM} (hD : isD G N S D) (hw : wF (dF D 0)) (hn : ¬ fI (dF D 0) 0 ≤ 0 → vf_n32 (FP.fdiv (FP.i2f (cSt (dF D 0) 1 (fN (dF D 0)))) (FP.i2f (fI (dF D 0) 0)))) (hk : K (if fI (dF D 0) 0 ≤ 0 then .inr eX else .inl (some (.float (FP.fdiv (FP.i2f (cSt (dF D 0) 1 (fN (dF D 0)))) (FP.i2f (fI (dF D 0) 0)))))) S) : RetK l G N mX4_runningShare (7, 103, 1, 6) [.ref (ad G 0)] S K := by
  refine ret_enter (by decide +kernel) (Nat.le_of_ble_eq_true rfl) (fun X hX h hm => ?_)
  subst hX
  replace h : OK X G N cX4_runningShare RX4 1 (7, 103, 1, 6) := h
  replace hm : OKm X G N K (some .float) (7, 103, 1, 6) := hm
  show AW X G 1 N 0 [(0, _)] [] S 0 0
  refine r_aload_n (pc' := 1) h dX4_runningShare_0 rfl rfl ?_
  refine gX4_10 (pc' := 4) h dX4_runningShare_1 rfl hD.l0 hD.o0 rfl ?_
  refine gX4_72 (pc' := 7) h dX4_runningShare_4 rfl hD.f0.l0 hD.f0.o rfl ?_
  refine r_if_gt (tgt := 21) (pc' := 10) h dX4_runningShare_7 (by decide) rfl (fun c0 => ?_) (fun c0 => ?_)
  · refine r_aload_n (pc' := 22) h dX4_runningShare_21 rfl rfl ?_
    refine gX4_10 (pc' := 25) h dX4_runningShare_22 rfl hD.l0 hD.o0 rfl ?_
    refine r_iconst (pc' := 26) (v := 1) h dX4_runningShare_25 rfl (by decide) ?_
    refine r_callV1 (pc' := 29) (M := mX1_countInState) h hm dX4_runningShare_26 rfl lX4_265 vX1_countInState rfl hD.f0.l0 hD.f0.o (Nat.le_of_ble_eq_true rfl) (rrb rfl) (kX1_countInState hD.f0 hw ?_)
    show AW X G _ _ _ _ _ _ _ _
    refine r_i2f (pc' := 30) h dX4_runningShare_29 rfl ?_
    refine r_aload_n (pc' := 31) h dX4_runningShare_30 rfl rfl ?_
    refine gX4_10 (pc' := 34) h dX4_runningShare_31 rfl hD.l0 hD.o0 rfl ?_
    refine gX4_72 (pc' := 37) h dX4_runningShare_34 rfl hD.f0.l0 hD.f0.o rfl ?_
    refine r_i2f (pc' := 38) h dX4_runningShare_37 rfl ?_
    refine r_fdiv (pc' := 39) h dX4_runningShare_38 rfl (hn (Int32.not_le.mpr c0)) ?_
    refine r_freturn h hm dX4_runningShare_39 (Nat.le_of_ble_eq_true rfl) (Nat.le_of_ble_eq_true rfl) ?_
    exact kO hk (if_neg (Int32.not_le.mpr c0))
  · refine r_throwW h hm tX4_264 lX4_260 (i := 23) rfl dX4_runningShare_10 dX4_runningShare_13 dX4_runningShare_14 dX4_runningShare_17 dX4_runningShare_20 (rrt rfl) ⟨rfl, rfl, rfl, rfl⟩ ?_
    exact kO hk (if_pos (Int32.not_lt.mp c0))
theorem kX4_turbineAt {l : Launch} {G : GX} {N : Nat} {S : Nat → va_E} {K : RK} {D : DM} (hD : isD G N S D) {r c : Int32} (hk : K (if isCell' r c then (if tIn (dF D 0) r c < 0 then .inr eN else .inl (some (.int (tIn (dF D 0) r c)))) else .inr eI) S) : RetK l G N mX4_turbineAt (7, 103, 2, 12) [.ref (ad G 0), .int r, .int c] S K := by
  refine ret_enter (by decide +kernel) (Nat.le_of_ble_eq_true rfl) (fun X hX h hm => ?_)
  subst hX
  replace h : OK X G N cX4_turbineAt RX4 4 (7, 103, 2, 12) := h
  replace hm : OKm X G N K (some .int) (7, 103, 2, 12) := hm
  show AW X G 4 N 0 [(0, _), (1, _), (2, _)] [] S 0 0
  refine r_iload_n (pc' := 1) h dX4_turbineAt_0 rfl rfl ?_
  refine r_iload_n (pc' := 2) h dX4_turbineAt_1 rfl rfl ?_
  refine r_callS2 (pc' := 5) (M := mX4_isCell) h hm dX4_turbineAt_2 rfl lX4_75 vX4_isCell (Nat.le_of_ble_eq_true rfl) (rrb rfl) (kX4_isCell ?_)
  show AW X G _ _ _ _ _ _ _ _
  refine r_if_neb (tgt := 18) (pc' := 8) h dX4_turbineAt_5 (by decide) rfl (fun c0 => ?_) (fun c0 => ?_)
  · refine r_aload_n (pc' := 19) h dX4_turbineAt_18 rfl rfl ?_
    refine gX4_10 (pc' := 22) h dX4_turbineAt_19 rfl hD.l0 hD.o0 rfl ?_
    refine r_iload_n (pc' := 23) h dX4_turbineAt_22 rfl rfl ?_
    refine r_iload_n (pc' := 24) h dX4_turbineAt_23 rfl rfl ?_
    refine r_callV2 (pc' := 27) (M := mX1_turbineIn) h hm dX4_turbineAt_24 rfl lX4_86 vX1_turbineIn rfl hD.f0.l0 hD.f0.o (Nat.le_of_ble_eq_true rfl) (rrb rfl) (kX1_turbineIn hD.f0 ?_)
    show AW X G _ _ _ _ _ _ _ _
    refine r_istoren (j := 3) (pc' := 28) h rfl dX4_turbineAt_27 rfl (by decide) rfl ?_
    refine r_iload_n (pc' := 29) h dX4_turbineAt_28 rfl rfl ?_
    refine r_if_ge (tgt := 42) (pc' := 32) h dX4_turbineAt_29 (by decide) rfl (fun c1 => ?_) (fun c1 => ?_)
    · refine r_iload_n (pc' := 43) h dX4_turbineAt_42 rfl rfl ?_
      refine r_ireturn h hm dX4_turbineAt_43 (Nat.le_of_ble_eq_true rfl) (Nat.le_of_ble_eq_true rfl) ?_
      exact kO hk ((if_pos c0).trans (if_neg (Int32.not_lt.mpr c1)))
    · refine r_throwNE h hm tX4_93 lX4_89 (i := 13) rfl dX4_turbineAt_32 dX4_turbineAt_35 (Or.inl ⟨dX4_turbineAt_36, rfl⟩) dX4_turbineAt_38 dX4_turbineAt_41 (rrt rfl) ⟨rfl, rfl, rfl⟩ ?_
      exact kO hk ((if_pos c0).trans (if_pos (Int32.not_le.mp c1)))
  · refine r_throw h hm tX4_83 lX4_79 (i := 12) rfl dX4_turbineAt_8 dX4_turbineAt_11 dX4_turbineAt_12 dX4_turbineAt_14 dX4_turbineAt_17 (rrt rfl) ⟨rfl, rfl, rfl, rfl⟩ ?_
    exact kO hk (if_neg (by rw [c0]; decide))
theorem kX4_outputWith {l : Launch} {G : GX} {N : Nat} {S : Nat → va_E} {K : RK} {D : DM} (hD : isD G N S D) {d x : Int32} (hw : wF (dF D 0)) (hk : K (if isWind' d x then .inl (some (.int (sumI (dF D 0) d x (fN (dF D 0))))) else .inr eA) S) : RetK l G N mX4_outputWith (7, 103, 1, 6) [.ref (ad G 0), .int d, .int x] S K := by
  refine ret_enter (by decide +kernel) (Nat.le_of_ble_eq_true rfl) (fun X hX h hm => ?_)
  subst hX
  replace h : OK X G N cX4_outputWith RX4 3 (7, 103, 1, 6) := h
  replace hm : OKm X G N K (some .int) (7, 103, 1, 6) := hm
  show AW X G 3 N 0 [(0, _), (1, _), (2, _)] [] S 0 0
  refine r_iload_n (pc' := 1) h dX4_outputWith_0 rfl rfl ?_
  refine r_iload_n (pc' := 2) h dX4_outputWith_1 rfl rfl ?_
  refine r_callS2 (pc' := 5) (M := mX4_isWind) h hm dX4_outputWith_2 rfl lX4_164 vX4_isWind (Nat.le_of_ble_eq_true rfl) (rrb rfl) (kX4_isWind ?_)
  show AW X G _ _ _ _ _ _ _ _
  refine r_if_neb (tgt := 18) (pc' := 8) h dX4_outputWith_5 (by decide) rfl (fun c0 => ?_) (fun c0 => ?_)
  · refine r_aload_n (pc' := 19) h dX4_outputWith_18 rfl rfl ?_
    refine gX4_10 (pc' := 22) h dX4_outputWith_19 rfl hD.l0 hD.o0 rfl ?_
    refine r_iload_n (pc' := 23) h dX4_outputWith_22 rfl rfl ?_
    refine r_iload_n (pc' := 24) h dX4_outputWith_23 rfl rfl ?_
    refine r_callV2 (pc' := 27) (M := mX1_sumIn) h hm dX4_outputWith_24 rfl lX4_158 vX1_sumIn rfl hD.f0.l0 hD.f0.o (Nat.le_of_ble_eq_true rfl) (rrb rfl) (kX1_sumIn hD.f0 hw ?_)
    show AW X G _ _ _ _ _ _ _ _
    refine r_ireturn h hm dX4_outputWith_27 (Nat.le_of_ble_eq_true rfl) (Nat.le_of_ble_eq_true rfl) ?_
    exact kO hk (by simp [c0])
  · refine r_throw h hm tX4_171 lX4_167 (i := 17) rfl dX4_outputWith_8 dX4_outputWith_11 dX4_outputWith_12 dX4_outputWith_14 dX4_outputWith_17 (rrt rfl) ⟨rfl, rfl, rfl, rfl⟩ ?_
    exact kO hk (by simp [c0])
theorem kX4_hasBid {l : Launch} {G : GX} {N : Nat} {S : Nat → va_E} {K : RK} {D : DM} (hD : isD G N S D) {t : Int32} (hk : K (if isHour' t then .inl (some (.int (b2i (bidF (dF D 0) t)))) else .inr eI) S) : RetK l G N mX4_hasBid (8, 124, 1, 6) [.ref (ad G 0), .int t] S K := by
  refine ret_enter (by decide +kernel) (Nat.le_of_ble_eq_true rfl) (fun X hX h hm => ?_)
  subst hX
  replace h : OK X G N cX4_hasBid RX4 2 (8, 124, 1, 6) := h
  replace hm : OKm X G N K (some .boolean) (8, 124, 1, 6) := hm
  show AW X G 2 N 0 [(0, _), (1, _)] [] S 0 0
  refine r_aload_n (pc' := 1) h dX4_hasBid_0 rfl rfl ?_
  refine r_iload_n (pc' := 2) h dX4_hasBid_1 rfl rfl ?_
  refine r_callV1 (pc' := 5) (M := mX4_requireHour) h hm dX4_hasBid_2 rfl lX4_201 vX4_requireHour rfl hD.l0 hD.o0 (Nat.le_of_ble_eq_true rfl) (rrb rfl) (kX4_requireHour hD (fun c0 => ?_) (fun c1 => ?_))
  · show AW X G _ _ _ _ _ _ _ _
    refine r_aload_n (pc' := 6) h dX4_hasBid_5 rfl rfl ?_
    refine gX4_10 (pc' := 9) h dX4_hasBid_6 rfl hD.l0 hD.o0 rfl ?_
    refine r_iload_n (pc' := 10) h dX4_hasBid_9 rfl rfl ?_
    refine r_callV1 (pc' := 13) (M := mX1_isBidFor) h hm dX4_hasBid_10 rfl lX4_204 vX1_isBidFor rfl hD.f0.l0 hD.f0.o (Nat.le_of_ble_eq_true rfl) (rrb rfl) (kX1_isBidFor hD.f0 ?_)
    show AW X G _ _ _ _ _ _ _ _
    refine r_zreturn h hm dX4_hasBid_13 (Nat.le_of_ble_eq_true rfl) (Nat.le_of_ble_eq_true rfl) (by first | rfl | exact nar_b _) ?_
    exact kO hk (by simp [c0])
  · show K (.inr _) _
    exact kO hk (by simp [c1])
theorem kX4_bidPrice {l : Launch} {G : GX} {N : Nat} {S : Nat → va_E} {K : RK} {D : DM} (hD : isD G N S D) {t : Int32} (hk : K (if isHour' t then (if bidF (dF D 0) t then .inl (some (.int (vAt 24 (fA (dF D 0) 7) t))) else .inr eN) else .inr eI) S) : RetK l G N mX4_bidPrice (9, 145, 2, 12) [.ref (ad G 0), .int t] S K := by
  refine ret_enter (by decide +kernel) (Nat.le_of_ble_eq_true rfl) (fun X hX h hm => ?_)
  subst hX
  replace h : OK X G N cX4_bidPrice RX4 2 (9, 145, 2, 12) := h
  replace hm : OKm X G N K (some .int) (9, 145, 2, 12) := hm
  show AW X G 2 N 0 [(0, _), (1, _)] [] S 0 0
  refine r_aload_n (pc' := 1) h dX4_bidPrice_0 rfl rfl ?_
  refine r_iload_n (pc' := 2) h dX4_bidPrice_1 rfl rfl ?_
  refine r_callV1 (pc' := 5) (M := mX4_requireBid) h hm dX4_bidPrice_2 rfl lX4_207 vX4_requireBid rfl hD.l0 hD.o0 (Nat.le_of_ble_eq_true rfl) (rrb rfl) (kX4_requireBid hD (fun c0 c1 => ?_) (fun c2 => ?_) (fun c3 c4 => ?_))
  · show AW X G _ _ _ _ _ _ _ _
    refine r_aload_n (pc' := 6) h dX4_bidPrice_5 rfl rfl ?_
    refine gX4_10 (pc' := 9) h dX4_bidPrice_6 rfl hD.l0 hD.o0 rfl ?_
    refine gX4_210 (pc' := 12) h dX4_bidPrice_9 rfl hD.f0.l0 hD.f0.o rfl ?_
    refine r_iload_n (pc' := 13) h dX4_bidPrice_12 rfl rfl ?_
    refine r_callS2 (pc' := 16) (M := mX4_valueAt) h hm dX4_bidPrice_13 rfl lX4_102 vX4_valueAt (Nat.le_of_ble_eq_true rfl) (rrb rfl) (kX4_valueAt hD.f0.l8 hD.f0.r8 (by decide) ?_)
    show AW X G _ _ _ _ _ _ _ _
    refine r_ireturn h hm dX4_bidPrice_16 (Nat.le_of_ble_eq_true rfl) (Nat.le_of_ble_eq_true rfl) ?_
    exact kO hk (by simp [c0, c1])
  · show K (.inr _) _
    exact kO hk (by simp [c2])
  · show K (.inr _) _
    exact kO hk (by simp [c3, c4])
theorem kX4_bidQuantity {l : Launch} {G : GX} {N : Nat} {S : Nat → va_E} {K : RK} {D : DM} (hD : isD G N S D) {t : Int32} (hk : K (if isHour' t then (if bidF (dF D 0) t then .inl (some (.int (vAt 24 (fA (dF D 0) 8) t))) else .inr eN) else .inr eI) S) : RetK l G N mX4_bidQuantity (9, 145, 2, 12) [.ref (ad G 0), .int t] S K := by
  refine ret_enter (by decide +kernel) (Nat.le_of_ble_eq_true rfl) (fun X hX h hm => ?_)
  subst hX
  replace h : OK X G N cX4_bidQuantity RX4 2 (9, 145, 2, 12) := h
  replace hm : OKm X G N K (some .int) (9, 145, 2, 12) := hm
  show AW X G 2 N 0 [(0, _), (1, _)] [] S 0 0
  refine r_aload_n (pc' := 1) h dX4_bidQuantity_0 rfl rfl ?_
  refine r_iload_n (pc' := 2) h dX4_bidQuantity_1 rfl rfl ?_
  refine r_callV1 (pc' := 5) (M := mX4_requireBid) h hm dX4_bidQuantity_2 rfl lX4_207 vX4_requireBid rfl hD.l0 hD.o0 (Nat.le_of_ble_eq_true rfl) (rrb rfl) (kX4_requireBid hD (fun c0 c1 => ?_) (fun c2 => ?_) (fun c3 c4 => ?_))
  · show AW X G _ _ _ _ _ _ _ _
    refine r_aload_n (pc' := 6) h dX4_bidQuantity_5 rfl rfl ?_
    refine gX4_10 (pc' := 9) h dX4_bidQuantity_6 rfl hD.l0 hD.o0 rfl ?_
    refine gX4_213 (pc' := 12) h dX4_bidQuantity_9 rfl hD.f0.l0 hD.f0.o rfl ?_
    refine r_iload_n (pc' := 13) h dX4_bidQuantity_12 rfl rfl ?_
    refine r_callS2 (pc' := 16) (M := mX4_valueAt) h hm dX4_bidQuantity_13 rfl lX4_102 vX4_valueAt (Nat.le_of_ble_eq_true rfl) (rrb rfl) (kX4_valueAt hD.f0.l9 hD.f0.r9 (by decide) ?_)
    show AW X G _ _ _ _ _ _ _ _
    refine r_ireturn h hm dX4_bidQuantity_16 (Nat.le_of_ble_eq_true rfl) (Nat.le_of_ble_eq_true rfl) ?_
    exact kO hk (by simp [c0, c1])
  · show K (.inr _) _
    exact kO hk (by simp [c2])
  · show K (.inr _) _
    exact kO hk (by simp [c3, c4])
theorem kX4_bidByPrice {l : Launch} {G : GX} {N : Nat} {S : Nat → va_E} {K : RK} {D : DM} (hD : isD G N S D) {x : Int32} (hk : K (zBP (dF D 0) x 0 24) S) : RetK l G N mX4_bidByPrice (7, 103, 1, 6) [.ref (ad G 0), .int x] S K := by
  refine ret_enter (by decide +kernel) (Nat.le_of_ble_eq_true rfl) (fun X hX h hm => ?_)
  subst hX
  replace h : OK X G N cX4_bidByPrice RX4 3 (7, 103, 1, 6) := h
  replace hm : OKm X G N K (some .int) (7, 103, 1, 6) := hm
  show AW X G 3 N 0 [(0, _), (1, _)] [] S 0 0
  refine r_iconst (pc' := 1) (v := 0) h dX4_bidByPrice_0 rfl (by decide) ?_
  refine r_istoren (j := 2) (pc' := 2) h rfl dX4_bidByPrice_1 rfl (by decide) rfl ?_
  have loop : ∀ (n j : Nat), j ≤ 24 → 24 - j < n → zBP (dF D 0) x j (24 - j) = zBP (dF D 0) x 0 (24) → AW X G 3 N 2 [(0, .ref (ad G 0)), (1, .int x), (2, .int (nI j))] [] S 0 0 := by
    intro n
    induction n with
    | zero => intro j h1 h2; exact absurd h2 (by omega)
    | succ n ih =>
      intro j h1 h2 hv
      refine r_iload_n (pc' := 3) h dX4_bidByPrice_2 rfl rfl ?_
      refine r_bipush (pc' := 5) (v := 24) h dX4_bidByPrice_3 rfl (by decide) ?_
      refine r_icmp_ge (tgt := 39) (pc' := 8) h dX4_bidByPrice_5 (by decide) rfl (fun c0 => ?_) (fun c0 => ?_)
      · have ej := lp_ge (c := 24) (rfl : (24 : Int32) = nI 24) (by decide) h1 c0
        subst ej
        refine r_throwNE h hm tX4_93 lX4_89 (i := 20) rfl dX4_bidByPrice_39 dX4_bidByPrice_42 (Or.inl ⟨dX4_bidByPrice_43, rfl⟩) dX4_bidByPrice_45 dX4_bidByPrice_48 (rrt rfl) ⟨rfl, rfl, rfl⟩ ?_
        exact kO hk (by rw [← hv, Nat.sub_self]; rfl)
      · have hj := lp_lt (c := 24) (rfl : (24 : Int32) = nI 24) (by decide) h1 c0
        refine r_aload_n (pc' := 9) h dX4_bidByPrice_8 rfl rfl ?_
        refine gX4_10 (pc' := 12) h dX4_bidByPrice_9 rfl hD.l0 hD.o0 rfl ?_
        refine r_iload_n (pc' := 13) h dX4_bidByPrice_12 rfl rfl ?_
        refine r_callV1 (pc' := 16) (M := mX1_isBidFor) h hm dX4_bidByPrice_13 rfl lX4_204 vX1_isBidFor rfl hD.f0.l0 hD.f0.o (Nat.le_of_ble_eq_true rfl) (rrb rfl) (kX1_isBidFor hD.f0 ?_)
        show AW X G _ _ _ _ _ _ _ _
        refine r_if_eqb (tgt := 33) (pc' := 19) h dX4_bidByPrice_16 (by decide) rfl (fun c1 => ?_) (fun c1 => ?_)
        · refine r_iinc (pc' := 36) (v := 1) h dX4_bidByPrice_33 rfl (by decide) (by decide) rfl rfl ?_
          refine r_goto (tgt := 2) h dX4_bidByPrice_36 (by decide) ?_
          refine aw_cast (by simp [nI_1]; done) (ih (j + 1) (by omega) (by omega) ?_)
          rw [← hv, show 24 - j = (24 - (j + 1)) + 1 by omega]
          simp [zBP, c0, c1]
        · refine r_aload_n (pc' := 20) h dX4_bidByPrice_19 rfl rfl ?_
          refine gX4_10 (pc' := 23) h dX4_bidByPrice_20 rfl hD.l0 hD.o0 rfl ?_
          refine r_iload_n (pc' := 24) h dX4_bidByPrice_23 rfl rfl ?_
          refine r_callV1 (pc' := 27) (M := mX1_bidsAheadOf) h hm dX4_bidByPrice_24 rfl lX4_216 vX1_bidsAheadOf rfl hD.f0.l0 hD.f0.o (Nat.le_of_ble_eq_true rfl) (rrb rfl) (kX1_bidsAheadOf hD.f0 ?_)
          show AW X G _ _ _ _ _ _ _ _
          refine r_iload_n (pc' := 28) h dX4_bidByPrice_27 rfl rfl ?_
          refine r_icmp_ne (tgt := 33) (pc' := 31) h dX4_bidByPrice_28 (by decide) rfl (fun c2 => ?_) (fun c2 => ?_)
          · refine r_iinc (pc' := 36) (v := 1) h dX4_bidByPrice_33 rfl (by decide) (by decide) rfl rfl ?_
            refine r_goto (tgt := 2) h dX4_bidByPrice_36 (by decide) ?_
            refine aw_cast (by simp [nI_1]; done) (ih (j + 1) (by omega) (by omega) ?_)
            rw [← hv, show 24 - j = (24 - (j + 1)) + 1 by omega]
            simp [zBP, c0, c1, c2]
          · refine r_iload_n (pc' := 32) h dX4_bidByPrice_31 rfl rfl ?_
            refine r_ireturn h hm dX4_bidByPrice_32 (Nat.le_of_ble_eq_true rfl) (Nat.le_of_ble_eq_true rfl) ?_
            exact kO hk (by rw [← hv, show 24 - j = (24 - (j + 1)) + 1 by omega]; simp [zBP, c0, c1, c2])
  exact loop (24 + 1) 0 (Nat.zero_le _) (by omega) rfl
theorem kX4_hoursToBid {l : Launch} {G : GX} {N : Nat} {S : Nat → va_E} {K : RK} {D : DM} (hD : isD G N S D) (hk : K (zHT (dF D 0) 0 24) S) : RetK l G N mX4_hoursToBid (7, 103, 1, 6) [.ref (ad G 0)] S K := by
  refine ret_enter (by decide +kernel) (Nat.le_of_ble_eq_true rfl) (fun X hX h hm => ?_)
  subst hX
  replace h : OK X G N cX4_hoursToBid RX4 2 (7, 103, 1, 6) := h
  replace hm : OKm X G N K (some .int) (7, 103, 1, 6) := hm
  show AW X G 2 N 0 [(0, _)] [] S 0 0
  refine r_iconst (pc' := 1) (v := 0) h dX4_hoursToBid_0 rfl (by decide) ?_
  refine r_istoren (j := 1) (pc' := 2) h rfl dX4_hoursToBid_1 rfl (by decide) rfl ?_
  have loop : ∀ (n j : Nat), j ≤ 24 → 24 - j < n → zHT (dF D 0) j (24 - j) = zHT (dF D 0) 0 (24) → AW X G 2 N 2 [(0, .ref (ad G 0)), (1, .int (nI j))] [] S 0 0 := by
    intro n
    induction n with
    | zero => intro j h1 h2; exact absurd h2 (by omega)
    | succ n ih =>
      intro j h1 h2 hv
      refine r_iload_n (pc' := 3) h dX4_hoursToBid_2 rfl rfl ?_
      refine r_bipush (pc' := 5) (v := 24) h dX4_hoursToBid_3 rfl (by decide) ?_
      refine r_icmp_ge (tgt := 38) (pc' := 8) h dX4_hoursToBid_5 (by decide) rfl (fun c0 => ?_) (fun c0 => ?_)
      · have ej := lp_ge (c := 24) (rfl : (24 : Int32) = nI 24) (by decide) h1 c0
        subst ej
        refine r_throwNE h hm tX4_93 lX4_89 (i := 21) rfl dX4_hoursToBid_38 dX4_hoursToBid_41 (Or.inl ⟨dX4_hoursToBid_42, rfl⟩) dX4_hoursToBid_44 dX4_hoursToBid_47 (rrt rfl) ⟨rfl, rfl, rfl⟩ ?_
        exact kO hk (by rw [← hv, Nat.sub_self]; rfl)
      · have hj := lp_lt (c := 24) (rfl : (24 : Int32) = nI 24) (by decide) h1 c0
        refine r_aload_n (pc' := 9) h dX4_hoursToBid_8 rfl rfl ?_
        refine gX4_10 (pc' := 12) h dX4_hoursToBid_9 rfl hD.l0 hD.o0 rfl ?_
        refine r_aload_n (pc' := 13) h dX4_hoursToBid_12 rfl rfl ?_
        refine gX4_10 (pc' := 16) h dX4_hoursToBid_13 rfl hD.l0 hD.o0 rfl ?_
        refine gX4_224 (pc' := 19) h dX4_hoursToBid_16 rfl hD.f0.l0 hD.f0.o rfl ?_
        refine r_iload_n (pc' := 20) h dX4_hoursToBid_19 rfl rfl ?_
        refine r_iadd (pc' := 21) h dX4_hoursToBid_20 rfl ?_
        refine r_bipush (pc' := 23) (v := 24) h dX4_hoursToBid_21 rfl (by decide) ?_
        refine r_irem (pc' := 24) h dX4_hoursToBid_23 rfl (by decide) ?_
        refine r_callV1 (pc' := 27) (M := mX1_isBidFor) h hm dX4_hoursToBid_24 rfl lX4_204 vX1_isBidFor rfl hD.f0.l0 hD.f0.o (Nat.le_of_ble_eq_true rfl) (rrb rfl) (kX1_isBidFor hD.f0 ?_)
        show AW X G _ _ _ _ _ _ _ _
        refine r_if_eqb (tgt := 32) (pc' := 30) h dX4_hoursToBid_27 (by decide) rfl (fun c1 => ?_) (fun c1 => ?_)
        · refine r_iinc (pc' := 35) (v := 1) h dX4_hoursToBid_32 rfl (by decide) (by decide) rfl rfl ?_
          refine r_goto (tgt := 2) h dX4_hoursToBid_35 (by decide) ?_
          refine aw_cast (by simp [nI_1]; done) (ih (j + 1) (by omega) (by omega) ?_)
          rw [← hv, show 24 - j = (24 - (j + 1)) + 1 by omega]
          simp [zHT, c0, c1]
        · refine r_iload_n (pc' := 31) h dX4_hoursToBid_30 rfl rfl ?_
          refine r_ireturn h hm dX4_hoursToBid_31 (Nat.le_of_ble_eq_true rfl) (Nat.le_of_ble_eq_true rfl) ?_
          exact kO hk (by rw [← hv, show 24 - j = (24 - (j + 1)) + 1 by omega]; simp [zHT, c0, c1])
  exact loop (24 + 1) 0 (Nat.zero_le _) (by omega) rfl
theorem kX4_turbineByOutput {l : Launch} {G : GX} {N : Nat} {S : Nat → va_E} {K : RK} {D : DM} (hD : isD G N S D) (hw : wF (dF D 0)) {x : Int32} (hk : K (zTP (dF D 0) x 0 (fN (dF D 0))) S) : RetK l G N mX4_turbineByOutput (7, 117, 1, 6) [.ref (ad G 0), .int x] S K := by
  refine ret_enter (by decide +kernel) (Nat.le_of_ble_eq_true rfl) (fun X hX h hm => ?_)
  subst hX
  replace h : OK X G N cX4_turbineByOutput RX4 3 (7, 117, 1, 6) := h
  replace hm : OKm X G N K (some .int) (7, 117, 1, 6) := hm
  show AW X G 3 N 0 [(0, _), (1, _)] [] S 0 0
  refine r_iconst (pc' := 1) (v := 0) h dX4_turbineByOutput_0 rfl (by decide) ?_
  refine r_istoren (j := 2) (pc' := 2) h rfl dX4_turbineByOutput_1 rfl (by decide) rfl ?_
  have loop : ∀ (n j : Nat), j ≤ fN (dF D 0) → fN (dF D 0) - j < n → zTP (dF D 0) x j (fN (dF D 0) - j) = zTP (dF D 0) x 0 (fN (dF D 0)) → AW X G 3 N 2 [(0, .ref (ad G 0)), (1, .int x), (2, .int (nI j))] [] S 0 0 := by
    intro n
    induction n with
    | zero => intro j h1 h2; exact absurd h2 (by omega)
    | succ n ih =>
      intro j h1 h2 hv
      refine r_iload_n (pc' := 3) h dX4_turbineByOutput_2 rfl rfl ?_
      refine r_aload_n (pc' := 4) h dX4_turbineByOutput_3 rfl rfl ?_
      refine gX4_10 (pc' := 7) h dX4_turbineByOutput_4 rfl hD.l0 hD.o0 rfl ?_
      refine gX4_72 (pc' := 10) h dX4_turbineByOutput_7 rfl hD.f0.l0 hD.f0.o rfl ?_
      refine r_icmp_ge (tgt := 33) (pc' := 13) h dX4_turbineByOutput_10 (by decide) rfl (fun c0 => ?_) (fun c0 => ?_)
      · have ej := lp_ge (c := fN (dF D 0)) hw.1 (by have := hw.2; omega) h1 c0
        subst ej
        refine r_throwNE h hm tX4_93 lX4_89 (i := 22) rfl dX4_turbineByOutput_33 dX4_turbineByOutput_36 (Or.inr ⟨dX4_turbineByOutput_37, rfl⟩) dX4_turbineByOutput_40 dX4_turbineByOutput_43 (rrt rfl) ⟨rfl, rfl, rfl⟩ ?_
        exact kO hk (by rw [← hv, Nat.sub_self]; rfl)
      · have hj := lp_lt (c := fN (dF D 0)) hw.1 (by have := hw.2; omega) h1 c0
        refine r_aload_n (pc' := 14) h dX4_turbineByOutput_13 rfl rfl ?_
        refine gX4_10 (pc' := 17) h dX4_turbineByOutput_14 rfl hD.l0 hD.o0 rfl ?_
        refine r_iload_n (pc' := 18) h dX4_turbineByOutput_17 rfl rfl ?_
        refine r_callV1 (pc' := 21) (M := mX1_turbinesAheadOf) h hm dX4_turbineByOutput_18 rfl lX4_255 vX1_turbinesAheadOf rfl hD.f0.l0 hD.f0.o (Nat.le_of_ble_eq_true rfl) (rrb rfl) (kX1_turbinesAheadOf hD.f0 hw ?_)
        show AW X G _ _ _ _ _ _ _ _
        refine r_iload_n (pc' := 22) h dX4_turbineByOutput_21 rfl rfl ?_
        refine r_icmp_ne (tgt := 27) (pc' := 25) h dX4_turbineByOutput_22 (by decide) rfl (fun c1 => ?_) (fun c1 => ?_)
        · refine r_iinc (pc' := 30) (v := 1) h dX4_turbineByOutput_27 rfl (by decide) (by decide) rfl rfl ?_
          refine r_goto (tgt := 2) h dX4_turbineByOutput_30 (by decide) ?_
          refine aw_cast (by simp [nI_1]; done) (ih (j + 1) (by omega) (by omega) ?_)
          rw [← hv, show fN (dF D 0) - j = (fN (dF D 0) - (j + 1)) + 1 by omega]
          simp [zTP, c0, c1]
        · refine r_iload_n (pc' := 26) h dX4_turbineByOutput_25 rfl rfl ?_
          refine r_ireturn h hm dX4_turbineByOutput_26 (Nat.le_of_ble_eq_true rfl) (Nat.le_of_ble_eq_true rfl) ?_
          exact kO hk (by rw [← hv, show fN (dF D 0) - j = (fN (dF D 0) - (j + 1)) + 1 by omega]; simp [zTP, c0, c1])
  exact loop (fN (dF D 0) + 1) 0 (Nat.zero_le _) (by omega) rfl
theorem kX4_bestDirection {l : Launch} {G : GX} {N : Nat} {S : Nat → va_E} {K : RK} {D : DM} (hD : isD G N S D) (hw : wF (dF D 0)) (hk : K (.inl (some (.int ((zBd (dF D 0) 4).1)))) S) : RetK l G N mX4_bestDirection (5, 106, 0, 0) [.ref (ad G 0)] S K := by
  refine ret_enter (by decide +kernel) (Nat.le_of_ble_eq_true rfl) (fun X hX h hm => ?_)
  subst hX
  replace h : OK X G N cX4_bestDirection RX4 6 (5, 106, 0, 0) := h
  replace hm : OKm X G N K (some .char) (5, 106, 0, 0) := hm
  show AW X G 6 N 0 [(0, _)] [] S 0 0
  refine r_bipush (pc' := 2) (v := 78) h dX4_bestDirection_0 rfl (by decide) ?_
  refine r_istoren (j := 1) (pc' := 3) h rfl dX4_bestDirection_2 rfl (by decide) rfl ?_
  refine r_iconst (pc' := 4) (v := -1) h dX4_bestDirection_3 rfl (by decide) ?_
  refine r_istoren (j := 2) (pc' := 5) h rfl dX4_bestDirection_4 rfl (by decide) rfl ?_
  refine r_iconst (pc' := 6) (v := 0) h dX4_bestDirection_5 rfl (by decide) ?_
  refine r_istoren (j := 3) (pc' := 7) h rfl dX4_bestDirection_6 rfl (by decide) rfl ?_
  have loop : ∀ (n j : Nat), j ≤ 4 → 4 - j < n → AW X G 6 N 7 [(0, .ref (ad G 0)), (1, .int (zBd (dF D 0) j).1), (2, .int (zBd (dF D 0) j).2), (3, .int (nI j))] [] S 0 0 := by
    intro n
    induction n with
    | zero => intro j h1 h2; exact absurd h2 (by omega)
    | succ n ih =>
      intro j h1 h2
      refine r_iload_n (pc' := 8) h dX4_bestDirection_7 rfl rfl ?_
      refine r_ldcK (pc' := 10) h (i := 0) rfl dX4_bestDirection_8 rfl ?_
      refine r_callVK (As := []) (pc' := 13) (M := mJ0_length) h hm dX4_bestDirection_10 rfl lX4_174 vJ0_length (show 0 < 9 by decide) rfl rfl (Nat.le_of_ble_eq_true rfl) (rrb rfl) (kJ0_length (show 0 < 9 by decide) ?_)
      show AW X G _ _ _ _ _ _ _ _
      refine r_icmp_ge (tgt := 60) (pc' := 16) h dX4_bestDirection_13 (by decide) rfl (fun c0 => ?_) (fun c0 => ?_)
      · have ej := lp_ge (c := 4) (rfl : nI (sLn 0) = nI 4) (by decide) h1 c0
        subst ej
        refine r_iload_n (pc' := 61) h dX4_bestDirection_60 rfl rfl ?_
        refine r_zreturn h hm dX4_bestDirection_61 (Nat.le_of_ble_eq_true rfl) (Nat.le_of_ble_eq_true rfl) (zBd_ch _ 4 (by decide)).1 ?_
        exact hk
      · have hj : j < sLn 0 := lp_lt (c := 4) (rfl : nI (sLn 0) = nI 4) (by decide) h1 c0
        have hj4 : j < 4 := hj
        refine r_ldcK (pc' := 18) h (i := 0) rfl dX4_bestDirection_16 rfl ?_
        refine r_iload_n (pc' := 19) h dX4_bestDirection_18 rfl rfl ?_
        refine r_callVK (As := [.int (nI j)]) (pc' := 22) (M := mJ0_charAt) h hm dX4_bestDirection_19 rfl lX4_179 vJ0_charAt (show 0 < 9 by decide) rfl rfl (Nat.le_of_ble_eq_true rfl) (rrb rfl) (kJ0_charAt (show 0 < 9 by decide) hj ?_)
        show AW X G _ _ _ _ _ _ _ _
        refine r_istore (pc' := 24) h dX4_bestDirection_22 rfl (by decide) rfl ?_
        refine r_aload_n (pc' := 25) h dX4_bestDirection_24 rfl rfl ?_
        refine gX4_10 (pc' := 28) h dX4_bestDirection_25 rfl hD.l0 hD.o0 rfl ?_
        refine r_iload (pc' := 30) h dX4_bestDirection_28 rfl rfl ?_
        refine r_aload_n (pc' := 31) h dX4_bestDirection_30 rfl rfl ?_
        refine gX4_10 (pc' := 34) h dX4_bestDirection_31 rfl hD.l0 hD.o0 rfl ?_
        refine gX4_141 (pc' := 37) h dX4_bestDirection_34 rfl hD.f0.l0 hD.f0.o rfl ?_
        refine r_callV2 (pc' := 40) (M := mX1_sumIn) h hm dX4_bestDirection_37 rfl lX4_158 vX1_sumIn rfl hD.f0.l0 hD.f0.o (Nat.le_of_ble_eq_true rfl) (rrb rfl) (kX1_sumIn hD.f0 hw ?_)
        show AW X G _ _ _ _ _ _ _ _
        refine r_istore (pc' := 42) h dX4_bestDirection_40 rfl (by decide) rfl ?_
        refine r_iload (pc' := 44) h dX4_bestDirection_42 rfl rfl ?_
        refine r_iload_n (pc' := 45) h dX4_bestDirection_44 rfl rfl ?_
        refine r_icmp_le (tgt := 54) (pc' := 48) h dX4_bestDirection_45 (by decide) rfl (fun c1 => ?_) (fun c1 => ?_)
        · refine r_iinc (pc' := 57) (v := 1) h dX4_bestDirection_54 rfl (by decide) (by decide) rfl rfl ?_
          refine r_goto (tgt := 7) h dX4_bestDirection_57 (by decide) ?_
          refine r_sub (lo' := [(0, _), (1, _), (2, _), (3, _)]) [0, 1, 2, 3] rfl ?_
          exact aw_cast (by simp [nI_1, zBd, c0, c1]) (ih (j + 1) (by omega) (by omega))
        · refine r_iload (pc' := 50) h dX4_bestDirection_48 rfl rfl ?_
          refine r_istoren (j := 2) (pc' := 51) h rfl dX4_bestDirection_50 rfl (by decide) rfl ?_
          refine r_iload (pc' := 53) h dX4_bestDirection_51 rfl rfl ?_
          refine r_istoren (j := 1) (pc' := 54) h rfl dX4_bestDirection_53 rfl (by decide) rfl ?_
          refine r_iinc (pc' := 57) (v := 1) h dX4_bestDirection_54 rfl (by decide) (by decide) rfl rfl ?_
          refine r_goto (tgt := 7) h dX4_bestDirection_57 (by decide) ?_
          refine r_sub (lo' := [(0, _), (1, _), (2, _), (3, _)]) [0, 1, 2, 3] rfl ?_
          exact aw_cast (by simp [nI_1, zBd, c0, c1]) (ih (j + 1) (by omega) (by omega))
  exact loop 5 0 (Nat.zero_le _) (by omega)
theorem kX4_rejectionReason {l : Launch} {G : GX} {N : Nat} {S : Nat → va_E} {K : RK} {D : DM} (hD : isD G N S D) (hk : K (if dI D 2 = 0 then .inr eN else .inl (some (.int (dI D 2)))) S) : RetK l G N mX4_rejectionReason (8, 123, 1, 6) [.ref (ad G 0)] S K := by
  refine ret_enter (by decide +kernel) (Nat.le_of_ble_eq_true rfl) (fun X hX h hm => ?_)
  subst hX
  replace h : OK X G N cX4_rejectionReason RX4 1 (8, 123, 1, 6) := h
  replace hm : OKm X G N K (some .int) (8, 123, 1, 6) := hm
  show AW X G 1 N 0 [(0, _)] [] S 0 0
  refine r_aload_n (pc' := 1) h dX4_rejectionReason_0 rfl rfl ?_
  refine r_callV0 (pc' := 4) (M := mX4_requireRejection) h hm dX4_rejectionReason_1 rfl lX4_335 vX4_requireRejection rfl hD.l0 hD.o0 (Nat.le_of_ble_eq_true rfl) (rrb rfl) (kX4_requireRejection hD (fun c0 => ?_) (fun c1 => ?_))
  · show AW X G _ _ _ _ _ _ _ _
    refine r_aload_n (pc' := 5) h dX4_rejectionReason_4 rfl rfl ?_
    refine gX4_338 (pc' := 8) h dX4_rejectionReason_5 rfl hD.l0 hD.o0 rfl ?_
    refine r_ireturn h hm dX4_rejectionReason_8 (Nat.le_of_ble_eq_true rfl) (Nat.le_of_ble_eq_true rfl) ?_
    exact kO hk (by simp [c0])
  · show K (.inr _) _
    exact kO hk (by simp [c1])
theorem kX4_outputAt {l : Launch} {G : GX} {N : Nat} {S : Nat → va_E} {K : RK} {D : DM} (hD : isD G N S D) {x : Int32} (hr2 : rowC (dR D 2)) (hk : K (zOA D x) S) : RetK l G N mX4_outputAt (7, 103, 1, 6) [.ref (ad G 0), .int x] S K := by
  refine ret_enter (by decide +kernel) (Nat.le_of_ble_eq_true rfl) (fun X hX h hm => ?_)
  subst hX
  replace h : OK X G N cX4_outputAt RX4 2 (7, 103, 1, 6) := h
  replace hm : OKm X G N K (some .char) (7, 103, 1, 6) := hm
  show AW X G 2 N 0 [(0, _), (1, _)] [] S 0 0
  refine r_iload_n (pc' := 1) h dX4_outputAt_0 rfl rfl ?_
  refine r_iconst (pc' := 2) (v := 0) h dX4_outputAt_1 rfl (by decide) ?_
  refine r_aload_n (pc' := 3) h dX4_outputAt_2 rfl rfl ?_
  refine gX4_39 (pc' := 6) h dX4_outputAt_3 rfl hD.l0 hD.o0 rfl ?_
  refine gX4_281 (pc' := 9) h dX4_outputAt_6 rfl hD.t2.l0 hD.t2.o rfl ?_
  refine r_iconst (pc' := 10) (v := 1) h dX4_outputAt_9 rfl (by decide) ?_
  refine r_isub (pc' := 11) h dX4_outputAt_10 rfl ?_
  refine r_callS3 (pc' := 14) (M := mX4_isWithin) h hm dX4_outputAt_11 rfl lX4_227 vX4_isWithin (Nat.le_of_ble_eq_true rfl) (rrb rfl) (kX4_isWithin ?_)
  show AW X G _ _ _ _ _ _ _ _
  refine r_if_neb (tgt := 28) (pc' := 17) h dX4_outputAt_14 (by decide) rfl (fun c0 => ?_) (fun c0 => ?_)
  · refine r_aload_n (pc' := 29) h dX4_outputAt_28 rfl rfl ?_
    refine gX4_39 (pc' := 32) h dX4_outputAt_29 rfl hD.l0 hD.o0 rfl ?_
    refine r_iload_n (pc' := 33) h dX4_outputAt_32 rfl rfl ?_
    refine r_callV1 (pc' := 36) (M := mX3_signAt) h hm dX4_outputAt_33 rfl lX4_285 vX3_signAt rfl hD.t2.l0 hD.t2.o (Nat.le_of_ble_eq_true rfl) (rrb rfl) (kX3_signAt hD.t2 hr2 ?_)
    show AW X G _ _ _ _ _ _ _ _
    refine r_zreturn h hm dX4_outputAt_36 (Nat.le_of_ble_eq_true rfl) (Nat.le_of_ble_eq_true rfl) (isCh_Sig (T := (dI D 11, dR D 2)) hr2 x).1 ?_
    exact kO hk (by simp [zOA, oTx, c0])
  · refine r_throwW h hm tX4_83 lX4_79 (i := 24) rfl dX4_outputAt_17 dX4_outputAt_20 dX4_outputAt_21 dX4_outputAt_24 dX4_outputAt_27 (rrt rfl) ⟨rfl, rfl, rfl, rfl⟩ ?_
    exact kO hk (by simp [zOA, oTx, c0])
theorem kX4_reject {l : Launch} {G : GX} {N : Nat} {S : Nat → va_E} {K : RK} {D : DM} (hD : isD G N S D) {x y z : Int32} (hk : ∀ S1, isD G N S1 (zRej D x y z) → DR S S1 → K (.inl none) S1) : RetK l G N mX4_reject (0, 0, 0, 0) [.ref (ad G 0), .int x, .int y, .int z] S K := by
  refine ret_enter (by decide +kernel) (Nat.le_of_ble_eq_true rfl) (fun X hX h hm => ?_)
  subst hX
  replace h : OK X G N cX4_reject RX4 4 (0, 0, 0, 0) := h
  replace hm : OKm X G N K none (0, 0, 0, 0) := hm
  show AW X G 4 N 0 [(0, _), (1, _), (2, _), (3, _)] [] S 0 0
  refine r_aload_n (pc' := 1) h dX4_reject_0 rfl rfl ?_
  refine r_iload_n (pc' := 2) h dX4_reject_1 rfl rfl ?_
  refine pX4_338 (pc' := 5) h dX4_reject_2 rfl hD.l0 hD.o0 (Nat.le_of_ble_eq_true rfl) ?_
  refine wD2 hD (fun S1 hD1 hR1 => ?_)
  refine r_aload_n (pc' := 6) h dX4_reject_5 rfl rfl ?_
  refine r_iload_n (pc' := 7) h dX4_reject_6 rfl rfl ?_
  refine pX4_341 (pc' := 10) h dX4_reject_7 rfl hD1.l0 hD1.o0 (Nat.le_of_ble_eq_true rfl) ?_
  refine wD3 hD1 (fun S2 hD2 hR2 => ?_)
  refine r_aload_n (pc' := 11) h dX4_reject_10 rfl rfl ?_
  refine r_iload_n (pc' := 12) h dX4_reject_11 rfl rfl ?_
  refine pX4_346 (pc' := 15) h dX4_reject_12 rfl hD2.l0 hD2.o0 (Nat.le_of_ble_eq_true rfl) ?_
  refine wD4 hD2 (fun S3 hD3 hR3 => ?_)
  refine r_return h hm dX4_reject_15 (Nat.le_of_ble_eq_true rfl) (Nat.le_of_ble_eq_true rfl) ?_
  exact hk _ hD3 (((hR1).trans hR2).trans hR3)
theorem kX4_admit {l : Launch} {G : GX} {N : Nat} {S : Nat → va_E} {K : RK} {D : DM} (hD : isD G N S D) {o x y z : Int32} (hv : vD D) (h1 : jud (dF D 0) o x y z = 0 → ∀ S1, isD G N S1 (hKp D (hJ D)) → DR S S1 → K (.inl none) S1) (h2 : ∀ E D2, zBad D o x y z = (.inr E, D2) → ¬ jud (dF D 0) o x y z = 0 → ∀ S1, isD G N S1 D2 → DR S S1 → K (.inr E) S1) : RetK l G N mX4_admit (7, 115, 3, 18) [.ref (ad G 0), .int o, .int x, .int y, .int z] S K := by
  refine ret_enter (by decide +kernel) (Nat.le_of_ble_eq_true rfl) (fun X hX h hm => ?_)
  subst hX
  replace h : OK X G N cX4_admit RX4 6 (7, 115, 3, 18) := h
  replace hm : OKm X G N K none (7, 115, 3, 18) := hm
  show AW X G 6 N 0 [(0, _), (1, _), (2, _), (3, _), (4, _)] [] S 0 0
  have hw := hv.2.2.1
  have hch := hv.2.1
  have h5 := hv.2.2.2.1
  have hj8 := hv.2.2.2.2.1
  have hn0 := hv.1 0 (by decide)
  have hnj := hv.1 (3 + hJ D) (by omega)
  refine r_aload_n (pc' := 1) h dX4_admit_0 rfl rfl ?_
  refine gX4_10 (pc' := 4) h dX4_admit_1 rfl hD.l0 hD.o0 rfl ?_
  refine r_iload_n (pc' := 5) h dX4_admit_4 rfl rfl ?_
  refine r_iload_n (pc' := 6) h dX4_admit_5 rfl rfl ?_
  refine r_iload_n (pc' := 7) h dX4_admit_6 rfl rfl ?_
  refine r_iload (pc' := 9) h dX4_admit_7 rfl rfl ?_
  refine r_callV4 (pc' := 12) (M := mX1_judge) h hm dX4_admit_9 rfl lX4_319 vX1_judge rfl hD.f0.l0 hD.f0.o (Nat.le_of_ble_eq_true rfl) (rrb rfl) (kX1_judge hD.f0 hw ?_)
  show AW X G _ _ _ _ _ _ _ _
  refine r_istore (pc' := 14) h dX4_admit_12 rfl (by decide) rfl ?_
  refine r_iload (pc' := 16) h dX4_admit_14 rfl rfl ?_
  refine r_iconst (pc' := 17) (v := -1) h dX4_admit_16 rfl (by decide) ?_
  refine r_icmp_ne (tgt := 31) (pc' := 20) h dX4_admit_17 (by decide) rfl (fun c0 => ?_) (fun c0 => ?_)
  · refine r_iload (pc' := 33) h dX4_admit_31 rfl rfl ?_
    refine r_bipush (pc' := 35) (v := -2) h dX4_admit_33 rfl (by decide) ?_
    refine r_icmp_ne (tgt := 49) (pc' := 38) h dX4_admit_35 (by decide) rfl (fun c1 => ?_) (fun c1 => ?_)
    · refine r_iload (pc' := 51) h dX4_admit_49 rfl rfl ?_
      refine r_if_eq (tgt := 83) (pc' := 54) h dX4_admit_51 (by decide) rfl (fun c2 => ?_) (fun c2 => ?_)
      · refine r_aload_n (pc' := 84) h dX4_admit_83 rfl rfl ?_
        refine gX4_25 (pc' := 87) h dX4_admit_84 rfl hD.l0 hD.o0 rfl ?_
        refine r_aload_n (pc' := 88) h dX4_admit_87 rfl rfl ?_
        refine gX4_10 (pc' := 91) h dX4_admit_88 rfl hD.l0 hD.o0 rfl ?_
        refine r_callV1 (pc' := 94) (M := mX2_keep) h hm dX4_admit_91 rfl lX4_330 vX2_keep rfl hD.l31 hD.o31 (Nat.le_of_ble_eq_true rfl) (rrb rfl) (kX2_keep hD hj8 h5 hn0 hnj hch (fun S1 hD1 hR1 => ?_))
        show AW X G _ _ _ _ _ _ _ _
        refine r_return h hm dX4_admit_94 (Nat.le_of_ble_eq_true rfl) (Nat.le_of_ble_eq_true rfl) ?_
        exact h1 c2 _ hD1 hR1
      · refine r_aload_n (pc' := 55) h dX4_admit_54 rfl rfl ?_
        refine r_iload (pc' := 57) h dX4_admit_55 rfl rfl ?_
        refine r_aload_n (pc' := 58) h dX4_admit_57 rfl rfl ?_
        refine gX4_10 (pc' := 61) h dX4_admit_58 rfl hD.l0 hD.o0 rfl ?_
        refine r_iload (pc' := 63) h dX4_admit_61 rfl rfl ?_
        refine r_iload_n (pc' := 64) h dX4_admit_63 rfl rfl ?_
        refine r_iload_n (pc' := 65) h dX4_admit_64 rfl rfl ?_
        refine r_callV3 (pc' := 68) (M := mX1_detailOf) h hm dX4_admit_65 rfl lX4_370 vX1_detailOf rfl hD.f0.l0 hD.f0.o (Nat.le_of_ble_eq_true rfl) (rrb rfl) (kX1_detailOf hD.f0 hw ?_)
        show AW X G _ _ _ _ _ _ _ _
        refine r_iconst (pc' := 69) (v := 0) h dX4_admit_68 rfl (by decide) ?_
        refine r_callV3 (pc' := 72) (M := mX4_reject) h hm dX4_admit_69 rfl lX4_373 vX4_reject rfl hD.l0 hD.o0 (Nat.le_of_ble_eq_true rfl) (rrb rfl) (kX4_reject hD (fun S2 hD2 hR2 => ?_))
        show AW X G _ _ _ _ _ _ _ _
        refine r_throwW h hm tX4_381 lX4_377 (i := 11) rfl dX4_admit_72 dX4_admit_75 dX4_admit_76 dX4_admit_79 dX4_admit_82 (rrt rfl) ⟨rfl, rfl, rfl, rfl⟩ ?_
        exact h2 _ _ (by rw [zBad]; first | exact if_pos c0 | (rw [if_neg c0]; exact if_pos c1) | (rw [if_neg c0, if_neg c1])) c2 _ hD2 hR2
    · refine r_throwW h hm tX4_171 lX4_167 (i := 10) rfl dX4_admit_38 dX4_admit_41 dX4_admit_42 dX4_admit_45 dX4_admit_48 (rrt rfl) ⟨rfl, rfl, rfl, rfl⟩ ?_
      exact h2 _ _ (by rw [zBad]; first | exact if_pos c0 | (rw [if_neg c0]; exact if_pos c1) | (rw [if_neg c0, if_neg c1])) (fun z => absurd (z.symm.trans c1) (by decide)) _ hD DR.rfl'
  · refine r_throwW h hm tX4_83 lX4_79 (i := 9) rfl dX4_admit_20 dX4_admit_23 dX4_admit_24 dX4_admit_27 dX4_admit_30 (rrt rfl) ⟨rfl, rfl, rfl, rfl⟩ ?_
    exact h2 _ _ (by rw [zBad]; first | exact if_pos c0 | (rw [if_neg c0]; exact if_pos c0) | (rw [if_neg c0, if_neg c0])) (fun z => absurd (z.symm.trans c0) (by decide)) _ hD DR.rfl'
theorem kX4_addTurbine {l : Launch} {G : GX} {N : Nat} {S : Nat → va_E} {K : RK} {D : DM} (hD : isD G N S D) {x y z : Int32} (hv : vD D) (hk : ∀ S1, isD G N S1 (zCh D 97 x y z).2 → DR S S1 → K (zCh D 97 x y z).1 S1) : RetK l G N mX4_addTurbine (8, 140, 3, 18) [.ref (ad G 0), .int x, .int y, .int z] S K := by
  refine ret_enter (by decide +kernel) (Nat.le_of_ble_eq_true rfl) (fun X hX h hm => ?_)
  subst hX
  replace h : OK X G N cX4_addTurbine RX4 4 (8, 140, 3, 18) := h
  replace hm : OKm X G N K (some .int) (8, 140, 3, 18) := hm
  show AW X G 4 N 0 [(0, _), (1, _), (2, _), (3, _)] [] S 0 0
  have hw := hv.2.2.1
  refine r_aload_n (pc' := 1) h dX4_addTurbine_0 rfl rfl ?_
  refine r_bipush (pc' := 3) (v := 97) h dX4_addTurbine_1 rfl (by decide) ?_
  refine r_iload_n (pc' := 4) h dX4_addTurbine_3 rfl rfl ?_
  refine r_iload_n (pc' := 5) h dX4_addTurbine_4 rfl rfl ?_
  refine r_iload_n (pc' := 6) h dX4_addTurbine_5 rfl rfl ?_
  refine r_callV4 (pc' := 9) (M := mX4_admit) h hm dX4_addTurbine_6 rfl lX4_47 vX4_admit rfl hD.l0 hD.o0 (Nat.le_of_ble_eq_true rfl) (rrb rfl) (kX4_admit hD hv (fun c19 S1 hD1 hR1 => ?_) (fun EZ DZ eZ cZ SZ hDZ hRZ => ?_))
  · show AW X G _ _ _ _ _ _ _ _
    have hF0 := hD1.f0K
    refine r_aload_n (pc' := 10) h dX4_addTurbine_9 rfl rfl ?_
    refine gX4_10 (pc' := 13) h dX4_addTurbine_10 rfl hD1.l0 hD1.o0 rfl ?_
    refine r_iload_n (pc' := 14) h dX4_addTurbine_13 rfl rfl ?_
    refine r_iload_n (pc' := 15) h dX4_addTurbine_14 rfl rfl ?_
    refine r_iload_n (pc' := 16) h dX4_addTurbine_15 rfl rfl ?_
    refine r_callV3 (pc' := 19) (M := mX1_add) h hm dX4_addTurbine_16 rfl lX4_51 vX1_add rfl hD1.f0.l0 hD1.f0.o (Nat.le_of_ble_eq_true rfl) (rrb rfl) (kX1_add hF0 (fun S2 hF2 hFR2 => ?_))
    have hD2 := hD1.u0 hF2 hFR2
    have hR2 := DR.f hFR2 (by decide)
    show AW X G _ _ _ _ _ _ _ _
    refine r_ireturn h hm dX4_addTurbine_19 (Nat.le_of_ble_eq_true rfl) (Nat.le_of_ble_eq_true rfl) ?_
    refine kD hk hD2 ((hR1).trans hR2) ?_
    rw [zCh, if_pos c19]
    rfl
  · show K (.inr _) _
    exact kD hk hDZ hRZ (by rw [zCh, if_neg cZ]; exact eZ)
theorem kX4_fail {l : Launch} {G : GX} {N : Nat} {S : Nat → va_E} {K : RK} {D : DM} (hD : isD G N S D) {x : Int32} (hv : vD D) (hk : ∀ S1, isD G N S1 (zCh D 102 x 0 0).2 → DR S S1 → K (zCh D 102 x 0 0).1 S1) : RetK l G N mX4_fail (8, 140, 3, 18) [.ref (ad G 0), .int x] S K := by
  refine ret_enter (by decide +kernel) (Nat.le_of_ble_eq_true rfl) (fun X hX h hm => ?_)
  subst hX
  replace h : OK X G N cX4_fail RX4 2 (8, 140, 3, 18) := h
  replace hm : OKm X G N K (some .int) (8, 140, 3, 18) := hm
  show AW X G 2 N 0 [(0, _), (1, _)] [] S 0 0
  have hw := hv.2.2.1
  refine r_aload_n (pc' := 1) h dX4_fail_0 rfl rfl ?_
  refine r_bipush (pc' := 3) (v := 102) h dX4_fail_1 rfl (by decide) ?_
  refine r_iload_n (pc' := 4) h dX4_fail_3 rfl rfl ?_
  refine r_iconst (pc' := 5) (v := 0) h dX4_fail_4 rfl (by decide) ?_
  refine r_iconst (pc' := 6) (v := 0) h dX4_fail_5 rfl (by decide) ?_
  refine r_callV4 (pc' := 9) (M := mX4_admit) h hm dX4_fail_6 rfl lX4_47 vX4_admit rfl hD.l0 hD.o0 (Nat.le_of_ble_eq_true rfl) (rrb rfl) (kX4_admit hD hv (fun c19 S1 hD1 hR1 => ?_) (fun EZ DZ eZ cZ SZ hDZ hRZ => ?_))
  · show AW X G _ _ _ _ _ _ _ _
    have hF0 := hD1.f0K
    refine r_aload_n (pc' := 10) h dX4_fail_9 rfl rfl ?_
    refine gX4_10 (pc' := 13) h dX4_fail_10 rfl hD1.l0 hD1.o0 rfl ?_
    refine r_iload_n (pc' := 14) h dX4_fail_13 rfl rfl ?_
    refine r_callV1 (pc' := 17) (M := mX1_breakDown) h hm dX4_fail_14 rfl lX4_55 vX1_breakDown rfl hD1.f0.l0 hD1.f0.o (Nat.le_of_ble_eq_true rfl) (rrb rfl) (kX1_breakDown hF0 hw (fun S2 hF2 hFR2 => ?_))
    have hD2 := hD1.u0 hF2 hFR2
    have hR2 := DR.f hFR2 (by decide)
    show AW X G _ _ _ _ _ _ _ _
    refine r_ireturn h hm dX4_fail_17 (Nat.le_of_ble_eq_true rfl) (Nat.le_of_ble_eq_true rfl) ?_
    refine kD hk hD2 ((hR1).trans hR2) ?_
    rw [zCh, if_pos c19]
    rfl
  · show K (.inr _) _
    exact kD hk hDZ hRZ (by rw [zCh, if_neg cZ]; exact eZ)
theorem kX4_sendCrew {l : Launch} {G : GX} {N : Nat} {S : Nat → va_E} {K : RK} {D : DM} (hD : isD G N S D) {x y : Int32} (hv : vD D) (hk : ∀ S1, isD G N S1 (zCh D 115 x y 0).2 → DR S S1 → K (zCh D 115 x y 0).1 S1) : RetK l G N mX4_sendCrew (8, 140, 3, 18) [.ref (ad G 0), .int x, .int y] S K := by
  refine ret_enter (by decide +kernel) (Nat.le_of_ble_eq_true rfl) (fun X hX h hm => ?_)
  subst hX
  replace h : OK X G N cX4_sendCrew RX4 3 (8, 140, 3, 18) := h
  replace hm : OKm X G N K (some .int) (8, 140, 3, 18) := hm
  show AW X G 3 N 0 [(0, _), (1, _), (2, _)] [] S 0 0
  have hw := hv.2.2.1
  refine r_aload_n (pc' := 1) h dX4_sendCrew_0 rfl rfl ?_
  refine r_bipush (pc' := 3) (v := 115) h dX4_sendCrew_1 rfl (by decide) ?_
  refine r_iload_n (pc' := 4) h dX4_sendCrew_3 rfl rfl ?_
  refine r_iload_n (pc' := 5) h dX4_sendCrew_4 rfl rfl ?_
  refine r_iconst (pc' := 6) (v := 0) h dX4_sendCrew_5 rfl (by decide) ?_
  refine r_callV4 (pc' := 9) (M := mX4_admit) h hm dX4_sendCrew_6 rfl lX4_47 vX4_admit rfl hD.l0 hD.o0 (Nat.le_of_ble_eq_true rfl) (rrb rfl) (kX4_admit hD hv (fun c19 S1 hD1 hR1 => ?_) (fun EZ DZ eZ cZ SZ hDZ hRZ => ?_))
  · show AW X G _ _ _ _ _ _ _ _
    have hF0 := hD1.f0K
    refine r_aload_n (pc' := 10) h dX4_sendCrew_9 rfl rfl ?_
    refine gX4_10 (pc' := 13) h dX4_sendCrew_10 rfl hD1.l0 hD1.o0 rfl ?_
    refine r_iload_n (pc' := 14) h dX4_sendCrew_13 rfl rfl ?_
    refine r_iload_n (pc' := 15) h dX4_sendCrew_14 rfl rfl ?_
    refine r_callV2 (pc' := 18) (M := mX1_startService) h hm dX4_sendCrew_15 rfl lX4_59 vX1_startService rfl hD1.f0.l0 hD1.f0.o (Nat.le_of_ble_eq_true rfl) (rrb rfl) (kX1_startService hF0 hw (fun S2 hF2 hFR2 => ?_))
    have hD2 := hD1.u0 hF2 hFR2
    have hR2 := DR.f hFR2 (by decide)
    show AW X G _ _ _ _ _ _ _ _
    refine r_ireturn h hm dX4_sendCrew_18 (Nat.le_of_ble_eq_true rfl) (Nat.le_of_ble_eq_true rfl) ?_
    refine kD hk hD2 ((hR1).trans hR2) ?_
    rw [zCh, if_pos c19]
    rfl
  · show K (.inr _) _
    exact kD hk hDZ hRZ (by rw [zCh, if_neg cZ]; exact eZ)
theorem kX4_recallCrew {l : Launch} {G : GX} {N : Nat} {S : Nat → va_E} {K : RK} {D : DM} (hD : isD G N S D) {x : Int32} (hv : vD D) (hk : ∀ S1, isD G N S1 (zCh D 114 x 0 0).2 → DR S S1 → K (zCh D 114 x 0 0).1 S1) : RetK l G N mX4_recallCrew (8, 140, 3, 18) [.ref (ad G 0), .int x] S K := by
  refine ret_enter (by decide +kernel) (Nat.le_of_ble_eq_true rfl) (fun X hX h hm => ?_)
  subst hX
  replace h : OK X G N cX4_recallCrew RX4 2 (8, 140, 3, 18) := h
  replace hm : OKm X G N K (some .int) (8, 140, 3, 18) := hm
  show AW X G 2 N 0 [(0, _), (1, _)] [] S 0 0
  have hw := hv.2.2.1
  refine r_aload_n (pc' := 1) h dX4_recallCrew_0 rfl rfl ?_
  refine r_bipush (pc' := 3) (v := 114) h dX4_recallCrew_1 rfl (by decide) ?_
  refine r_iload_n (pc' := 4) h dX4_recallCrew_3 rfl rfl ?_
  refine r_iconst (pc' := 5) (v := 0) h dX4_recallCrew_4 rfl (by decide) ?_
  refine r_iconst (pc' := 6) (v := 0) h dX4_recallCrew_5 rfl (by decide) ?_
  refine r_callV4 (pc' := 9) (M := mX4_admit) h hm dX4_recallCrew_6 rfl lX4_47 vX4_admit rfl hD.l0 hD.o0 (Nat.le_of_ble_eq_true rfl) (rrb rfl) (kX4_admit hD hv (fun c19 S1 hD1 hR1 => ?_) (fun EZ DZ eZ cZ SZ hDZ hRZ => ?_))
  · show AW X G _ _ _ _ _ _ _ _
    have hF0 := hD1.f0K
    refine r_aload_n (pc' := 10) h dX4_recallCrew_9 rfl rfl ?_
    refine gX4_10 (pc' := 13) h dX4_recallCrew_10 rfl hD1.l0 hD1.o0 rfl ?_
    refine r_iload_n (pc' := 14) h dX4_recallCrew_13 rfl rfl ?_
    refine r_callV1 (pc' := 17) (M := mX1_stopService) h hm dX4_recallCrew_14 rfl lX4_63 vX1_stopService rfl hD1.f0.l0 hD1.f0.o (Nat.le_of_ble_eq_true rfl) (rrb rfl) (kX1_stopService hF0 (fun S2 hF2 hFR2 => ?_))
    have hD2 := hD1.u0 hF2 hFR2
    have hR2 := DR.f hFR2 (by decide)
    show AW X G _ _ _ _ _ _ _ _
    refine r_ireturn h hm dX4_recallCrew_17 (Nat.le_of_ble_eq_true rfl) (Nat.le_of_ble_eq_true rfl) ?_
    refine kD hk hD2 ((hR1).trans hR2) ?_
    rw [zCh, if_pos c19]
    rfl
  · show K (.inr _) _
    exact kD hk hDZ hRZ (by rw [zCh, if_neg cZ]; exact eZ)
theorem kX4_curtail {l : Launch} {G : GX} {N : Nat} {S : Nat → va_E} {K : RK} {D : DM} (hD : isD G N S D) {x y : Int32} (hv : vD D) (hk : ∀ S1, isD G N S1 (zCh D 99 x y 0).2 → DR S S1 → K (zCh D 99 x y 0).1 S1) : RetK l G N mX4_curtail (8, 140, 3, 18) [.ref (ad G 0), .int x, .int y] S K := by
  refine ret_enter (by decide +kernel) (Nat.le_of_ble_eq_true rfl) (fun X hX h hm => ?_)
  subst hX
  replace h : OK X G N cX4_curtail RX4 3 (8, 140, 3, 18) := h
  replace hm : OKm X G N K (some .int) (8, 140, 3, 18) := hm
  show AW X G 3 N 0 [(0, _), (1, _), (2, _)] [] S 0 0
  have hw := hv.2.2.1
  refine r_aload_n (pc' := 1) h dX4_curtail_0 rfl rfl ?_
  refine r_bipush (pc' := 3) (v := 99) h dX4_curtail_1 rfl (by decide) ?_
  refine r_iload_n (pc' := 4) h dX4_curtail_3 rfl rfl ?_
  refine r_iload_n (pc' := 5) h dX4_curtail_4 rfl rfl ?_
  refine r_iconst (pc' := 6) (v := 0) h dX4_curtail_5 rfl (by decide) ?_
  refine r_callV4 (pc' := 9) (M := mX4_admit) h hm dX4_curtail_6 rfl lX4_47 vX4_admit rfl hD.l0 hD.o0 (Nat.le_of_ble_eq_true rfl) (rrb rfl) (kX4_admit hD hv (fun c19 S1 hD1 hR1 => ?_) (fun EZ DZ eZ cZ SZ hDZ hRZ => ?_))
  · show AW X G _ _ _ _ _ _ _ _
    have hF0 := hD1.f0K
    refine r_aload_n (pc' := 10) h dX4_curtail_9 rfl rfl ?_
    refine gX4_10 (pc' := 13) h dX4_curtail_10 rfl hD1.l0 hD1.o0 rfl ?_
    refine r_iload_n (pc' := 14) h dX4_curtail_13 rfl rfl ?_
    refine r_iload_n (pc' := 15) h dX4_curtail_14 rfl rfl ?_
    refine r_callV2 (pc' := 18) (M := mX1_changeLimit) h hm dX4_curtail_15 rfl lX4_66 vX1_changeLimit rfl hD1.f0.l0 hD1.f0.o (Nat.le_of_ble_eq_true rfl) (rrb rfl) (kX1_changeLimit hF0 (fun S2 hF2 hFR2 => ?_))
    have hD2 := hD1.u0 hF2 hFR2
    have hR2 := DR.f hFR2 (by decide)
    show AW X G _ _ _ _ _ _ _ _
    refine r_ireturn h hm dX4_curtail_18 (Nat.le_of_ble_eq_true rfl) (Nat.le_of_ble_eq_true rfl) ?_
    refine kD hk hD2 ((hR1).trans hR2) ?_
    rw [zCh, if_pos c19]
    rfl
  · show K (.inr _) _
    exact kD hk hDZ hRZ (by rw [zCh, if_neg cZ]; exact eZ)
theorem kX4_release {l : Launch} {G : GX} {N : Nat} {S : Nat → va_E} {K : RK} {D : DM} (hD : isD G N S D) {x : Int32} (hv : vD D) (hk : ∀ S1, isD G N S1 (zCh D 117 x 0 0).2 → DR S S1 → K (zCh D 117 x 0 0).1 S1) : RetK l G N mX4_release (8, 140, 3, 18) [.ref (ad G 0), .int x] S K := by
  refine ret_enter (by decide +kernel) (Nat.le_of_ble_eq_true rfl) (fun X hX h hm => ?_)
  subst hX
  replace h : OK X G N cX4_release RX4 2 (8, 140, 3, 18) := h
  replace hm : OKm X G N K (some .int) (8, 140, 3, 18) := hm
  show AW X G 2 N 0 [(0, _), (1, _)] [] S 0 0
  have hw := hv.2.2.1
  refine r_aload_n (pc' := 1) h dX4_release_0 rfl rfl ?_
  refine r_bipush (pc' := 3) (v := 117) h dX4_release_1 rfl (by decide) ?_
  refine r_iload_n (pc' := 4) h dX4_release_3 rfl rfl ?_
  refine r_iconst (pc' := 5) (v := 0) h dX4_release_4 rfl (by decide) ?_
  refine r_iconst (pc' := 6) (v := 0) h dX4_release_5 rfl (by decide) ?_
  refine r_callV4 (pc' := 9) (M := mX4_admit) h hm dX4_release_6 rfl lX4_47 vX4_admit rfl hD.l0 hD.o0 (Nat.le_of_ble_eq_true rfl) (rrb rfl) (kX4_admit hD hv (fun c19 S1 hD1 hR1 => ?_) (fun EZ DZ eZ cZ SZ hDZ hRZ => ?_))
  · show AW X G _ _ _ _ _ _ _ _
    have hF0 := hD1.f0K
    refine r_aload_n (pc' := 10) h dX4_release_9 rfl rfl ?_
    refine gX4_10 (pc' := 13) h dX4_release_10 rfl hD1.l0 hD1.o0 rfl ?_
    refine r_iload_n (pc' := 14) h dX4_release_13 rfl rfl ?_
    refine r_callV1 (pc' := 17) (M := mX1_endLimit) h hm dX4_release_14 rfl lX4_69 vX1_endLimit rfl hD1.f0.l0 hD1.f0.o (Nat.le_of_ble_eq_true rfl) (rrb rfl) (kX1_endLimit hF0 (fun S2 hF2 hFR2 => ?_))
    have hD2 := hD1.u0 hF2 hFR2
    have hR2 := DR.f hFR2 (by decide)
    show AW X G _ _ _ _ _ _ _ _
    refine r_ireturn h hm dX4_release_17 (Nat.le_of_ble_eq_true rfl) (Nat.le_of_ble_eq_true rfl) ?_
    refine kD hk hD2 ((hR1).trans hR2) ?_
    rw [zCh, if_pos c19]
    rfl
  · show K (.inr _) _
    exact kD hk hDZ hRZ (by rw [zCh, if_neg cZ]; exact eZ)
theorem kX4_setWind {l : Launch} {G : GX} {N : Nat} {S : Nat → va_E} {K : RK} {D : DM} (hD : isD G N S D) {x y : Int32} (hv : vD D) (hd : isCh x) (hk : ∀ S1, isD G N S1 (zCh D 119 x y 0).2 → DR S S1 → K (zCh D 119 x y 0).1 S1) : RetK l G N mX4_setWind (8, 140, 3, 18) [.ref (ad G 0), .int x, .int y] S K := by
  refine ret_enter (by decide +kernel) (Nat.le_of_ble_eq_true rfl) (fun X hX h hm => ?_)
  subst hX
  replace h : OK X G N cX4_setWind RX4 3 (8, 140, 3, 18) := h
  replace hm : OKm X G N K (some .int) (8, 140, 3, 18) := hm
  show AW X G 3 N 0 [(0, _), (1, _), (2, _)] [] S 0 0
  have hw := hv.2.2.1
  refine r_aload_n (pc' := 1) h dX4_setWind_0 rfl rfl ?_
  refine r_bipush (pc' := 3) (v := 119) h dX4_setWind_1 rfl (by decide) ?_
  refine r_iload_n (pc' := 4) h dX4_setWind_3 rfl rfl ?_
  refine r_iload_n (pc' := 5) h dX4_setWind_4 rfl rfl ?_
  refine r_iconst (pc' := 6) (v := 0) h dX4_setWind_5 rfl (by decide) ?_
  refine r_callV4 (pc' := 9) (M := mX4_admit) h hm dX4_setWind_6 rfl lX4_47 vX4_admit rfl hD.l0 hD.o0 (Nat.le_of_ble_eq_true rfl) (rrb rfl) (kX4_admit hD hv (fun c19 S1 hD1 hR1 => ?_) (fun EZ DZ eZ cZ SZ hDZ hRZ => ?_))
  · show AW X G _ _ _ _ _ _ _ _
    have hF0 := hD1.f0K
    refine r_aload_n (pc' := 10) h dX4_setWind_9 rfl rfl ?_
    refine gX4_10 (pc' := 13) h dX4_setWind_10 rfl hD1.l0 hD1.o0 rfl ?_
    refine r_iload_n (pc' := 14) h dX4_setWind_13 rfl rfl ?_
    refine r_iload_n (pc' := 15) h dX4_setWind_14 rfl rfl ?_
    refine r_callV2 (pc' := 18) (M := mX1_turnWind) h hm dX4_setWind_15 rfl lX4_133 vX1_turnWind rfl hD1.f0.l0 hD1.f0.o (Nat.le_of_ble_eq_true rfl) (rrb rfl) (kX1_turnWind hF0 hw hd (fun S2 hF2 hFR2 => ?_))
    have hD2 := hD1.u0 hF2 hFR2
    have hR2 := DR.f hFR2 (by decide)
    show AW X G _ _ _ _ _ _ _ _
    refine r_ireturn h hm dX4_setWind_18 (Nat.le_of_ble_eq_true rfl) (Nat.le_of_ble_eq_true rfl) ?_
    refine kD hk hD2 ((hR1).trans hR2) ?_
    rw [zCh, if_pos c19]
    have e9 : fCar (dF D 0) 119 x y 0 = (fWnd (dF D 0) (chr' x) y, sumI (fWnd (dF D 0) (chr' x) y) (chr' x) y (fN (dF D 0))) := rfl; rw [e9, chr_of hd]
  · show K (.inr _) _
    exact kD hk hDZ hRZ (by rw [zCh, if_neg cZ]; exact eZ)
theorem kX4_setGridLimit {l : Launch} {G : GX} {N : Nat} {S : Nat → va_E} {K : RK} {D : DM} (hD : isD G N S D) {x : Int32} (hv : vD D) (hk : ∀ S1, isD G N S1 (zCh D 103 x 0 0).2 → DR S S1 → K (zCh D 103 x 0 0).1 S1) : RetK l G N mX4_setGridLimit (8, 140, 3, 18) [.ref (ad G 0), .int x] S K := by
  refine ret_enter (by decide +kernel) (Nat.le_of_ble_eq_true rfl) (fun X hX h hm => ?_)
  subst hX
  replace h : OK X G N cX4_setGridLimit RX4 2 (8, 140, 3, 18) := h
  replace hm : OKm X G N K (some .int) (8, 140, 3, 18) := hm
  show AW X G 2 N 0 [(0, _), (1, _)] [] S 0 0
  have hw := hv.2.2.1
  refine r_aload_n (pc' := 1) h dX4_setGridLimit_0 rfl rfl ?_
  refine r_bipush (pc' := 3) (v := 103) h dX4_setGridLimit_1 rfl (by decide) ?_
  refine r_iload_n (pc' := 4) h dX4_setGridLimit_3 rfl rfl ?_
  refine r_iconst (pc' := 5) (v := 0) h dX4_setGridLimit_4 rfl (by decide) ?_
  refine r_iconst (pc' := 6) (v := 0) h dX4_setGridLimit_5 rfl (by decide) ?_
  refine r_callV4 (pc' := 9) (M := mX4_admit) h hm dX4_setGridLimit_6 rfl lX4_47 vX4_admit rfl hD.l0 hD.o0 (Nat.le_of_ble_eq_true rfl) (rrb rfl) (kX4_admit hD hv (fun c19 S1 hD1 hR1 => ?_) (fun EZ DZ eZ cZ SZ hDZ hRZ => ?_))
  · show AW X G _ _ _ _ _ _ _ _
    have hF0 := hD1.f0K
    refine r_aload_n (pc' := 10) h dX4_setGridLimit_9 rfl rfl ?_
    refine gX4_10 (pc' := 13) h dX4_setGridLimit_10 rfl hD1.l0 hD1.o0 rfl ?_
    refine r_iload_n (pc' := 14) h dX4_setGridLimit_13 rfl rfl ?_
    refine r_callV1 (pc' := 17) (M := mX1_changeGridLimit) h hm dX4_setGridLimit_14 rfl lX4_183 vX1_changeGridLimit rfl hD1.f0.l0 hD1.f0.o (Nat.le_of_ble_eq_true rfl) (rrb rfl) (kX1_changeGridLimit hF0 (fun S2 hF2 hFR2 => ?_))
    have hD2 := hD1.u0 hF2 hFR2
    have hR2 := DR.f hFR2 (by decide)
    show AW X G _ _ _ _ _ _ _ _
    refine r_ireturn h hm dX4_setGridLimit_17 (Nat.le_of_ble_eq_true rfl) (Nat.le_of_ble_eq_true rfl) ?_
    refine kD hk hD2 ((hR1).trans hR2) ?_
    rw [zCh, if_pos c19]
    rfl
  · show K (.inr _) _
    exact kD hk hDZ hRZ (by rw [zCh, if_neg cZ]; exact eZ)
theorem kX4_dispatch {l : Launch} {G : GX} {N : Nat} {S : Nat → va_E} {K : RK} {D : DM} (hD : isD G N S D) (hv : vD D) (hk : ∀ S1, isD G N S1 (zCh D 100 0 0 0).2 → DR S S1 → K (zCh D 100 0 0 0).1 S1) : RetK l G N mX4_dispatch (8, 140, 3, 18) [.ref (ad G 0)] S K := by
  refine ret_enter (by decide +kernel) (Nat.le_of_ble_eq_true rfl) (fun X hX h hm => ?_)
  subst hX
  replace h : OK X G N cX4_dispatch RX4 1 (8, 140, 3, 18) := h
  replace hm : OKm X G N K (some .int) (8, 140, 3, 18) := hm
  show AW X G 1 N 0 [(0, _)] [] S 0 0
  have hw := hv.2.2.1
  refine r_aload_n (pc' := 1) h dX4_dispatch_0 rfl rfl ?_
  refine r_bipush (pc' := 3) (v := 100) h dX4_dispatch_1 rfl (by decide) ?_
  refine r_iconst (pc' := 4) (v := 0) h dX4_dispatch_3 rfl (by decide) ?_
  refine r_iconst (pc' := 5) (v := 0) h dX4_dispatch_4 rfl (by decide) ?_
  refine r_iconst (pc' := 6) (v := 0) h dX4_dispatch_5 rfl (by decide) ?_
  refine r_callV4 (pc' := 9) (M := mX4_admit) h hm dX4_dispatch_6 rfl lX4_47 vX4_admit rfl hD.l0 hD.o0 (Nat.le_of_ble_eq_true rfl) (rrb rfl) (kX4_admit hD hv (fun c19 S1 hD1 hR1 => ?_) (fun EZ DZ eZ cZ SZ hDZ hRZ => ?_))
  · show AW X G _ _ _ _ _ _ _ _
    have hF0 := hD1.f0K
    refine r_aload_n (pc' := 10) h dX4_dispatch_9 rfl rfl ?_
    refine gX4_10 (pc' := 13) h dX4_dispatch_10 rfl hD1.l0 hD1.o0 rfl ?_
    refine r_callV0 (pc' := 16) (M := mX1_limitToGrid) h hm dX4_dispatch_13 rfl lX4_189 vX1_limitToGrid rfl hD1.f0.l0 hD1.f0.o (Nat.le_of_ble_eq_true rfl) (rrb rfl) (kX1_limitToGrid hF0 hw (fun S2 hF2 hFR2 => ?_))
    have hD2 := hD1.u0 hF2 hFR2
    have hR2 := DR.f hFR2 (by decide)
    show AW X G _ _ _ _ _ _ _ _
    refine r_ireturn h hm dX4_dispatch_16 (Nat.le_of_ble_eq_true rfl) (Nat.le_of_ble_eq_true rfl) ?_
    refine kD hk hD2 ((hR1).trans hR2) ?_
    rw [zCh, if_pos c19]
    rfl
  · show K (.inr _) _
    exact kD hk hDZ hRZ (by rw [zCh, if_neg cZ]; exact eZ)
theorem kX4_releaseAll {l : Launch} {G : GX} {N : Nat} {S : Nat → va_E} {K : RK} {D : DM} (hD : isD G N S D) (hv : vD D) (hk : ∀ S1, isD G N S1 (zCh D 118 0 0 0).2 → DR S S1 → K (zCh D 118 0 0 0).1 S1) : RetK l G N mX4_releaseAll (8, 140, 3, 18) [.ref (ad G 0)] S K := by
  refine ret_enter (by decide +kernel) (Nat.le_of_ble_eq_true rfl) (fun X hX h hm => ?_)
  subst hX
  replace h : OK X G N cX4_releaseAll RX4 1 (8, 140, 3, 18) := h
  replace hm : OKm X G N K (some .int) (8, 140, 3, 18) := hm
  show AW X G 1 N 0 [(0, _)] [] S 0 0
  have hw := hv.2.2.1
  refine r_aload_n (pc' := 1) h dX4_releaseAll_0 rfl rfl ?_
  refine r_bipush (pc' := 3) (v := 118) h dX4_releaseAll_1 rfl (by decide) ?_
  refine r_iconst (pc' := 4) (v := 0) h dX4_releaseAll_3 rfl (by decide) ?_
  refine r_iconst (pc' := 5) (v := 0) h dX4_releaseAll_4 rfl (by decide) ?_
  refine r_iconst (pc' := 6) (v := 0) h dX4_releaseAll_5 rfl (by decide) ?_
  refine r_callV4 (pc' := 9) (M := mX4_admit) h hm dX4_releaseAll_6 rfl lX4_47 vX4_admit rfl hD.l0 hD.o0 (Nat.le_of_ble_eq_true rfl) (rrb rfl) (kX4_admit hD hv (fun c19 S1 hD1 hR1 => ?_) (fun EZ DZ eZ cZ SZ hDZ hRZ => ?_))
  · show AW X G _ _ _ _ _ _ _ _
    have hF0 := hD1.f0K
    refine r_aload_n (pc' := 10) h dX4_releaseAll_9 rfl rfl ?_
    refine gX4_10 (pc' := 13) h dX4_releaseAll_10 rfl hD1.l0 hD1.o0 rfl ?_
    refine r_callV0 (pc' := 16) (M := mX1_endAllLimits) h hm dX4_releaseAll_13 rfl lX4_192 vX1_endAllLimits rfl hD1.f0.l0 hD1.f0.o (Nat.le_of_ble_eq_true rfl) (rrb rfl) (kX1_endAllLimits hF0 hw (fun S2 hF2 hFR2 => ?_))
    have hD2 := hD1.u0 hF2 hFR2
    have hR2 := DR.f hFR2 (by decide)
    show AW X G _ _ _ _ _ _ _ _
    refine r_ireturn h hm dX4_releaseAll_16 (Nat.le_of_ble_eq_true rfl) (Nat.le_of_ble_eq_true rfl) ?_
    refine kD hk hD2 ((hR1).trans hR2) ?_
    rw [zCh, if_pos c19]
    rfl
  · show K (.inr _) _
    exact kD hk hDZ hRZ (by rw [zCh, if_neg cZ]; exact eZ)
theorem kX4_placeBid {l : Launch} {G : GX} {N : Nat} {S : Nat → va_E} {K : RK} {D : DM} (hD : isD G N S D) {x y z : Int32} (hv : vD D) (hk : ∀ S1, isD G N S1 (zCh D 98 x y z).2 → DR S S1 → K (zCh D 98 x y z).1 S1) : RetK l G N mX4_placeBid (8, 140, 3, 18) [.ref (ad G 0), .int x, .int y, .int z] S K := by
  refine ret_enter (by decide +kernel) (Nat.le_of_ble_eq_true rfl) (fun X hX h hm => ?_)
  subst hX
  replace h : OK X G N cX4_placeBid RX4 4 (8, 140, 3, 18) := h
  replace hm : OKm X G N K (some .int) (8, 140, 3, 18) := hm
  show AW X G 4 N 0 [(0, _), (1, _), (2, _), (3, _)] [] S 0 0
  have hw := hv.2.2.1
  refine r_aload_n (pc' := 1) h dX4_placeBid_0 rfl rfl ?_
  refine r_bipush (pc' := 3) (v := 98) h dX4_placeBid_1 rfl (by decide) ?_
  refine r_iload_n (pc' := 4) h dX4_placeBid_3 rfl rfl ?_
  refine r_iload_n (pc' := 5) h dX4_placeBid_4 rfl rfl ?_
  refine r_iload_n (pc' := 6) h dX4_placeBid_5 rfl rfl ?_
  refine r_callV4 (pc' := 9) (M := mX4_admit) h hm dX4_placeBid_6 rfl lX4_47 vX4_admit rfl hD.l0 hD.o0 (Nat.le_of_ble_eq_true rfl) (rrb rfl) (kX4_admit hD hv (fun c19 S1 hD1 hR1 => ?_) (fun EZ DZ eZ cZ SZ hDZ hRZ => ?_))
  · show AW X G _ _ _ _ _ _ _ _
    have hF0 := hD1.f0K
    refine r_aload_n (pc' := 10) h dX4_placeBid_9 rfl rfl ?_
    refine gX4_10 (pc' := 13) h dX4_placeBid_10 rfl hD1.l0 hD1.o0 rfl ?_
    refine r_iload_n (pc' := 14) h dX4_placeBid_13 rfl rfl ?_
    refine r_iload_n (pc' := 15) h dX4_placeBid_14 rfl rfl ?_
    refine r_iload_n (pc' := 16) h dX4_placeBid_15 rfl rfl ?_
    refine r_callV3 (pc' := 19) (M := mX1_addBid) h hm dX4_placeBid_16 rfl lX4_195 vX1_addBid rfl hD1.f0.l0 hD1.f0.o (Nat.le_of_ble_eq_true rfl) (rrb rfl) (kX1_addBid hF0 (fun S2 hF2 hFR2 => ?_))
    have hD2 := hD1.u0 hF2 hFR2
    have hR2 := DR.f hFR2 (by decide)
    show AW X G _ _ _ _ _ _ _ _
    refine r_ireturn h hm dX4_placeBid_19 (Nat.le_of_ble_eq_true rfl) (Nat.le_of_ble_eq_true rfl) ?_
    refine kD hk hD2 ((hR1).trans hR2) ?_
    rw [zCh, if_pos c19]
    rfl
  · show K (.inr _) _
    exact kD hk hDZ hRZ (by rw [zCh, if_neg cZ]; exact eZ)
theorem kX4_withdrawBid {l : Launch} {G : GX} {N : Nat} {S : Nat → va_E} {K : RK} {D : DM} (hD : isD G N S D) {x : Int32} (hv : vD D) (hk : ∀ S1, isD G N S1 (zCh D 113 x 0 0).2 → DR S S1 → K (zCh D 113 x 0 0).1 S1) : RetK l G N mX4_withdrawBid (8, 140, 3, 18) [.ref (ad G 0), .int x] S K := by
  refine ret_enter (by decide +kernel) (Nat.le_of_ble_eq_true rfl) (fun X hX h hm => ?_)
  subst hX
  replace h : OK X G N cX4_withdrawBid RX4 2 (8, 140, 3, 18) := h
  replace hm : OKm X G N K (some .int) (8, 140, 3, 18) := hm
  show AW X G 2 N 0 [(0, _), (1, _)] [] S 0 0
  have hw := hv.2.2.1
  refine r_aload_n (pc' := 1) h dX4_withdrawBid_0 rfl rfl ?_
  refine r_bipush (pc' := 3) (v := 113) h dX4_withdrawBid_1 rfl (by decide) ?_
  refine r_iload_n (pc' := 4) h dX4_withdrawBid_3 rfl rfl ?_
  refine r_iconst (pc' := 5) (v := 0) h dX4_withdrawBid_4 rfl (by decide) ?_
  refine r_iconst (pc' := 6) (v := 0) h dX4_withdrawBid_5 rfl (by decide) ?_
  refine r_callV4 (pc' := 9) (M := mX4_admit) h hm dX4_withdrawBid_6 rfl lX4_47 vX4_admit rfl hD.l0 hD.o0 (Nat.le_of_ble_eq_true rfl) (rrb rfl) (kX4_admit hD hv (fun c19 S1 hD1 hR1 => ?_) (fun EZ DZ eZ cZ SZ hDZ hRZ => ?_))
  · show AW X G _ _ _ _ _ _ _ _
    have hF0 := hD1.f0K
    refine r_aload_n (pc' := 10) h dX4_withdrawBid_9 rfl rfl ?_
    refine gX4_10 (pc' := 13) h dX4_withdrawBid_10 rfl hD1.l0 hD1.o0 rfl ?_
    refine r_iload_n (pc' := 14) h dX4_withdrawBid_13 rfl rfl ?_
    refine r_callV1 (pc' := 17) (M := mX1_removeBid) h hm dX4_withdrawBid_14 rfl lX4_198 vX1_removeBid rfl hD1.f0.l0 hD1.f0.o (Nat.le_of_ble_eq_true rfl) (rrb rfl) (kX1_removeBid hF0 (fun S2 hF2 hFR2 => ?_))
    have hD2 := hD1.u0 hF2 hFR2
    have hR2 := DR.f hFR2 (by decide)
    show AW X G _ _ _ _ _ _ _ _
    refine r_ireturn h hm dX4_withdrawBid_17 (Nat.le_of_ble_eq_true rfl) (Nat.le_of_ble_eq_true rfl) ?_
    refine kD hk hD2 ((hR1).trans hR2) ?_
    rw [zCh, if_pos c19]
    rfl
  · show K (.inr _) _
    exact kD hk hDZ hRZ (by rw [zCh, if_neg cZ]; exact eZ)
theorem kX4_passHours {l : Launch} {G : GX} {N : Nat} {S : Nat → va_E} {K : RK} {D : DM} (hD : isD G N S D) {x : Int32} (hv : vD D) (hk : ∀ S1, isD G N S1 (zCh D 116 x 0 0).2 → DR S S1 → K (zCh D 116 x 0 0).1 S1) : RetK l G N mX4_passHours (8, 140, 3, 18) [.ref (ad G 0), .int x] S K := by
  refine ret_enter (by decide +kernel) (Nat.le_of_ble_eq_true rfl) (fun X hX h hm => ?_)
  subst hX
  replace h : OK X G N cX4_passHours RX4 2 (8, 140, 3, 18) := h
  replace hm : OKm X G N K (some .int) (8, 140, 3, 18) := hm
  show AW X G 2 N 0 [(0, _), (1, _)] [] S 0 0
  have hw := hv.2.2.1
  have hx9 : jud (dF D 0) 116 x 0 0 = 0 → ¬ x < 0 := fun e z => by
    have e2 : (if wIn x 1 48 = true then (0 : Int32) else -2) = 0 := e
    rw [if_neg (by unfold wIn; rw [if_pos (Int32.lt_trans z (by decide))]; decide)] at e2
    exact absurd e2 (by decide)
  refine r_aload_n (pc' := 1) h dX4_passHours_0 rfl rfl ?_
  refine r_bipush (pc' := 3) (v := 116) h dX4_passHours_1 rfl (by decide) ?_
  refine r_iload_n (pc' := 4) h dX4_passHours_3 rfl rfl ?_
  refine r_iconst (pc' := 5) (v := 0) h dX4_passHours_4 rfl (by decide) ?_
  refine r_iconst (pc' := 6) (v := 0) h dX4_passHours_5 rfl (by decide) ?_
  refine r_callV4 (pc' := 9) (M := mX4_admit) h hm dX4_passHours_6 rfl lX4_47 vX4_admit rfl hD.l0 hD.o0 (Nat.le_of_ble_eq_true rfl) (rrb rfl) (kX4_admit hD hv (fun c19 S1 hD1 hR1 => ?_) (fun EZ DZ eZ cZ SZ hDZ hRZ => ?_))
  · show AW X G _ _ _ _ _ _ _ _
    have hF0 := hD1.f0K
    refine r_aload_n (pc' := 10) h dX4_passHours_9 rfl rfl ?_
    refine gX4_10 (pc' := 13) h dX4_passHours_10 rfl hD1.l0 hD1.o0 rfl ?_
    refine r_iload_n (pc' := 14) h dX4_passHours_13 rfl rfl ?_
    refine r_callV1 (pc' := 17) (M := mX1_pass) h hm dX4_passHours_14 rfl lX4_221 vX1_pass rfl hD1.f0.l0 hD1.f0.o (Nat.le_of_ble_eq_true rfl) (rrb rfl) (kX1_passX hF0 hw (hx9 c19) (fun S2 hF2 hFR2 => ?_))
    have hD2 := hD1.u0 hF2 hFR2
    have hR2 := DR.f hFR2 (by decide)
    show AW X G _ _ _ _ _ _ _ _
    refine r_ireturn h hm dX4_passHours_17 (Nat.le_of_ble_eq_true rfl) (Nat.le_of_ble_eq_true rfl) ?_
    refine kD hk hD2 ((hR1).trans hR2) ?_
    rw [zCh, if_pos c19]
    rfl
  · show K (.inr _) _
    exact kD hk hDZ hRZ (by rw [zCh, if_neg cZ]; exact eZ)
theorem kX4_writeNumber {l : Launch} {G : GX} {N : Nat} {S : Nat → va_E} {K : RK} {D : DM} (hD : isD G N S D) {x y : Int32} (hk : ∀ S1, isD G N S1 (zNm D x y) → DR S S1 → K (.inl none) S1) : RetK l G N mX4_writeNumber (2, 42, 0, 0) [.ref (ad G 0), .int x, .int y] S K := by
  refine ret_enter (by decide +kernel) (Nat.le_of_ble_eq_true rfl) (fun X hX h hm => ?_)
  subst hX
  replace h : OK X G N cX4_writeNumber RX4 3 (2, 42, 0, 0) := h
  replace hm : OKm X G N K none (2, 42, 0, 0) := hm
  show AW X G 3 N 0 [(0, _), (1, _), (2, _)] [] S 0 0
  refine r_aload_n (pc' := 1) h dX4_writeNumber_0 rfl rfl ?_
  refine gX4_39 (pc' := 4) h dX4_writeNumber_1 rfl hD.l0 hD.o0 rfl ?_
  refine r_iload_n (pc' := 5) h dX4_writeNumber_4 rfl rfl ?_
  refine r_callV1 (pc' := 8) (M := mX3_add) h hm dX4_writeNumber_5 rfl lX4_278 vX3_add rfl hD.t2.l0 hD.t2.o (Nat.le_of_ble_eq_true rfl) (rrb rfl) (kX3_add hD.t2 (fun S1 hT1 hTR1 => ?_))
  have hD1 := hD.vt2 hT1 hTR1
  have hR1 := DR.t hTR1 (by decide)
  show AW X G _ _ _ _ _ _ _ _
  refine r_aload_n (pc' := 9) h dX4_writeNumber_8 rfl rfl ?_
  refine gX4_39 (pc' := 12) h dX4_writeNumber_9 rfl hD1.l0 hD1.o0 rfl ?_
  refine r_iload_n (pc' := 13) h dX4_writeNumber_12 rfl rfl ?_
  refine r_callV1 (pc' := 16) (M := mX3_addNumber) h hm dX4_writeNumber_13 rfl lX4_271 vX3_addNumber rfl hD1.t2.l0 hD1.t2.o (Nat.le_of_ble_eq_true rfl) (rrb rfl) (kX3_addNumber hD1.t2 (fun S2 hT2 hTR2 => ?_))
  have hD2 := hD1.vt2 hT2 hTR2
  have hR2 := DR.t hTR2 (by decide)
  show AW X G _ _ _ _ _ _ _ _
  refine r_return h hm dX4_writeNumber_16 (Nat.le_of_ble_eq_true rfl) (Nat.le_of_ble_eq_true rfl) ?_
  exact hk _ hD2 ((hR1).trans hR2)
set_option maxHeartbeats 8000000 in
theorem kX4_writeTurbine {l : Launch} {G : GX} {N : Nat} {S : Nat → va_E} {K : RK} {D : DM} (hD : isD G N S D) {t : Int32} (hv : vD D) (hk : ∀ S1, isD G N S1 (zWt D t).2 → DR S S1 → K (zWt D t).1 S1) : RetK l G N mX4_writeTurbine (8, 124, 1, 6) [.ref (ad G 0), .int t] S K := by
  refine ret_enter (by decide +kernel) (Nat.le_of_ble_eq_true rfl) (fun X hX h hm => ?_)
  subst hX
  replace h : OK X G N cX4_writeTurbine RX4 2 (8, 124, 1, 6) := h
  replace hm : OKm X G N K (some .int) (8, 124, 1, 6) := hm
  show AW X G 2 N 0 [(0, _), (1, _)] [] S 0 0
  have hw := hv.2.2.1
  refine r_aload_n (pc' := 1) h dX4_writeTurbine_0 rfl rfl ?_
  refine r_iload_n (pc' := 2) h dX4_writeTurbine_1 rfl rfl ?_
  refine r_callV1 (pc' := 5) (M := mX4_requireTurbine) h hm dX4_writeTurbine_2 rfl lX4_94 vX4_requireTurbine rfl hD.l0 hD.o0 (Nat.le_of_ble_eq_true rfl) (rrb rfl) (kX4_requireTurbine hD (fun c0 => ?_) (fun c1 => ?_))
  · show AW X G _ _ _ _ _ _ _ _
    refine r_aload_n (pc' := 6) h dX4_writeTurbine_5 rfl rfl ?_
    refine gX4_39 (pc' := 9) h dX4_writeTurbine_6 rfl hD.l0 hD.o0 rfl ?_
    refine r_callV0 (pc' := 12) (M := mX3_clear) h hm dX4_writeTurbine_9 rfl lX4_268 vX3_clear rfl hD.t2.l0 hD.t2.o (Nat.le_of_ble_eq_true rfl) (rrb rfl) (kX3_clear hD.t2 (fun S1 hT1 hTR1 => ?_))
    have hD1 := hD.vt2 hT1 hTR1
    have hR1 := DR.t hTR1 (by decide)
    obtain ⟨Z1, z1, hD1⟩ := nmD hD1
    have g1 : dF Z1 0 = dF D 0 := by rw [z1]; exact rfl
    have hF10 : isF G N S1 1 (dF D 0) := by rw [← g1]; exact hD1.f0
    show AW X G _ _ _ _ _ _ _ _
    refine r_aload_n (pc' := 13) h dX4_writeTurbine_12 rfl rfl ?_
    refine gX4_39 (pc' := 16) h dX4_writeTurbine_13 rfl hD1.l0 hD1.o0 rfl ?_
    refine r_iload_n (pc' := 17) h dX4_writeTurbine_16 rfl rfl ?_
    refine r_callV1 (pc' := 20) (M := mX3_addNumber) h hm dX4_writeTurbine_17 rfl lX4_271 vX3_addNumber rfl hD1.t2.l0 hD1.t2.o (Nat.le_of_ble_eq_true rfl) (rrb rfl) (kX3_addNumber hD1.t2 (fun S2 hT2 hTR2 => ?_))
    have hD2 := hD1.vt2 hT2 hTR2
    have hR2 := DR.t hTR2 (by decide)
    obtain ⟨Z2, z2, hD2⟩ := nmD hD2
    have g2 : dF Z2 0 = dF D 0 := by rw [z2]; exact g1
    have hF20 : isF G N S2 1 (dF D 0) := by rw [← g2]; exact hD2.f0
    show AW X G _ _ _ _ _ _ _ _
    refine r_aload_n (pc' := 21) h dX4_writeTurbine_20 rfl rfl ?_
    refine r_bipush (pc' := 23) (v := 64) h dX4_writeTurbine_21 rfl (by decide) ?_
    refine r_aload_n (pc' := 24) h dX4_writeTurbine_23 rfl rfl ?_
    refine gX4_10 (pc' := 27) h dX4_writeTurbine_24 rfl hD2.l0 hD2.o0 rfl ?_
    refine gX4_98 (pc' := 30) h dX4_writeTurbine_27 rfl hF20.l0 hF20.o rfl ?_
    refine r_iload_n (pc' := 31) h dX4_writeTurbine_30 rfl rfl ?_
    refine r_callS2 (pc' := 34) (M := mX4_valueAt) h hm dX4_writeTurbine_31 rfl lX4_102 vX4_valueAt (Nat.le_of_ble_eq_true rfl) (rrb rfl) (kX4_valueAt hF20.l1 hF20.r1 (by decide) ?_)
    show AW X G _ _ _ _ _ _ _ _
    refine r_callV2 (pc' := 37) (M := mX4_writeNumber) h hm dX4_writeTurbine_34 rfl lX4_274 vX4_writeNumber rfl hD2.l0 hD2.o0 (Nat.le_of_ble_eq_true rfl) (rrb rfl) (kX4_writeNumber hD2 (fun S3 hD3 hR3 => ?_))
    obtain ⟨Z3, z3, hD3⟩ := nmD hD3
    have g3 : dF Z3 0 = dF D 0 := by rw [z3]; exact g2
    have hF30 : isF G N S3 1 (dF D 0) := by rw [← g3]; exact hD3.f0
    show AW X G _ _ _ _ _ _ _ _
    refine r_aload_n (pc' := 38) h dX4_writeTurbine_37 rfl rfl ?_
    refine r_bipush (pc' := 40) (v := 44) h dX4_writeTurbine_38 rfl (by decide) ?_
    refine r_aload_n (pc' := 41) h dX4_writeTurbine_40 rfl rfl ?_
    refine gX4_10 (pc' := 44) h dX4_writeTurbine_41 rfl hD3.l0 hD3.o0 rfl ?_
    refine gX4_106 (pc' := 47) h dX4_writeTurbine_44 rfl hF30.l0 hF30.o rfl ?_
    refine r_iload_n (pc' := 48) h dX4_writeTurbine_47 rfl rfl ?_
    refine r_callS2 (pc' := 51) (M := mX4_valueAt) h hm dX4_writeTurbine_48 rfl lX4_102 vX4_valueAt (Nat.le_of_ble_eq_true rfl) (rrb rfl) (kX4_valueAt hF30.l2 hF30.r2 (by decide) ?_)
    show AW X G _ _ _ _ _ _ _ _
    refine r_callV2 (pc' := 54) (M := mX4_writeNumber) h hm dX4_writeTurbine_51 rfl lX4_274 vX4_writeNumber rfl hD3.l0 hD3.o0 (Nat.le_of_ble_eq_true rfl) (rrb rfl) (kX4_writeNumber hD3 (fun S4 hD4 hR4 => ?_))
    obtain ⟨Z4, z4, hD4⟩ := nmD hD4
    have g4 : dF Z4 0 = dF D 0 := by rw [z4]; exact g3
    have hF40 : isF G N S4 1 (dF D 0) := by rw [← g4]; exact hD4.f0
    show AW X G _ _ _ _ _ _ _ _
    refine r_aload_n (pc' := 55) h dX4_writeTurbine_54 rfl rfl ?_
    refine r_bipush (pc' := 57) (v := 112) h dX4_writeTurbine_55 rfl (by decide) ?_
    refine r_aload_n (pc' := 58) h dX4_writeTurbine_57 rfl rfl ?_
    refine gX4_10 (pc' := 61) h dX4_writeTurbine_58 rfl hD4.l0 hD4.o0 rfl ?_
    refine gX4_109 (pc' := 64) h dX4_writeTurbine_61 rfl hF40.l0 hF40.o rfl ?_
    refine r_iload_n (pc' := 65) h dX4_writeTurbine_64 rfl rfl ?_
    refine r_callS2 (pc' := 68) (M := mX4_valueAt) h hm dX4_writeTurbine_65 rfl lX4_102 vX4_valueAt (Nat.le_of_ble_eq_true rfl) (rrb rfl) (kX4_valueAt hF40.l3 hF40.r3 (by decide) ?_)
    show AW X G _ _ _ _ _ _ _ _
    refine r_callV2 (pc' := 71) (M := mX4_writeNumber) h hm dX4_writeTurbine_68 rfl lX4_274 vX4_writeNumber rfl hD4.l0 hD4.o0 (Nat.le_of_ble_eq_true rfl) (rrb rfl) (kX4_writeNumber hD4 (fun S5 hD5 hR5 => ?_))
    obtain ⟨Z5, z5, hD5⟩ := nmD hD5
    have g5 : dF Z5 0 = dF D 0 := by rw [z5]; exact g4
    have hF50 : isF G N S5 1 (dF D 0) := by rw [← g5]; exact hD5.f0
    show AW X G _ _ _ _ _ _ _ _
    refine r_aload_n (pc' := 72) h dX4_writeTurbine_71 rfl rfl ?_
    refine r_bipush (pc' := 74) (v := 61) h dX4_writeTurbine_72 rfl (by decide) ?_
    refine r_aload_n (pc' := 75) h dX4_writeTurbine_74 rfl rfl ?_
    refine gX4_10 (pc' := 78) h dX4_writeTurbine_75 rfl hD5.l0 hD5.o0 rfl ?_
    refine r_iload_n (pc' := 79) h dX4_writeTurbine_78 rfl rfl ?_
    refine r_aload_n (pc' := 80) h dX4_writeTurbine_79 rfl rfl ?_
    refine gX4_10 (pc' := 83) h dX4_writeTurbine_80 rfl hD5.l0 hD5.o0 rfl ?_
    refine gX4_137 (pc' := 86) h dX4_writeTurbine_83 rfl hF50.l0 hF50.o rfl ?_
    refine r_aload_n (pc' := 87) h dX4_writeTurbine_86 rfl rfl ?_
    refine gX4_10 (pc' := 90) h dX4_writeTurbine_87 rfl hD5.l0 hD5.o0 rfl ?_
    refine gX4_141 (pc' := 93) h dX4_writeTurbine_90 rfl hF50.l0 hF50.o rfl ?_
    refine r_callV3 (pc' := 96) (M := mX1_outputIn) h hm dX4_writeTurbine_93 rfl lX4_154 vX1_outputIn rfl hF50.l0 hF50.o (Nat.le_of_ble_eq_true rfl) (rrb rfl) (kX1_outputIn hF50 ?_)
    show AW X G _ _ _ _ _ _ _ _
    refine r_callV2 (pc' := 99) (M := mX4_writeNumber) h hm dX4_writeTurbine_96 rfl lX4_274 vX4_writeNumber rfl hD5.l0 hD5.o0 (Nat.le_of_ble_eq_true rfl) (rrb rfl) (kX4_writeNumber hD5 (fun S6 hD6 hR6 => ?_))
    obtain ⟨Z6, z6, hD6⟩ := nmD hD6
    have g6 : dF Z6 0 = dF D 0 := by rw [z6]; exact g5
    have hF60 : isF G N S6 1 (dF D 0) := by rw [← g6]; exact hD6.f0
    show AW X G _ _ _ _ _ _ _ _
    refine r_aload_n (pc' := 100) h dX4_writeTurbine_99 rfl rfl ?_
    refine gX4_10 (pc' := 103) h dX4_writeTurbine_100 rfl hD6.l0 hD6.o0 rfl ?_
    refine r_iload_n (pc' := 104) h dX4_writeTurbine_103 rfl rfl ?_
    refine r_callV1 (pc' := 107) (M := mX1_isCurtailed) h hm dX4_writeTurbine_104 rfl lX4_115 vX1_isCurtailed rfl hF60.l0 hF60.o (Nat.le_of_ble_eq_true rfl) (rrb rfl) (kX1_isCurtailed hF60 ?_)
    show AW X G _ _ _ _ _ _ _ _
    refine r_if_eqb (tgt := 130) (pc' := 110) h dX4_writeTurbine_107 (by decide) rfl (fun c2 => ?_) (fun c2 => ?_)
    · refine r_aload_n (pc' := 131) h dX4_writeTurbine_130 rfl rfl ?_
      refine gX4_10 (pc' := 134) h dX4_writeTurbine_131 rfl hD6.l0 hD6.o0 rfl ?_
      refine r_iload_n (pc' := 135) h dX4_writeTurbine_134 rfl rfl ?_
      refine r_iconst (pc' := 136) (v := 2) h dX4_writeTurbine_135 rfl (by decide) ?_
      refine r_callV2 (pc' := 139) (M := mX1_isInState) h hm dX4_writeTurbine_136 rfl lX4_112 vX1_isInState rfl hF60.l0 hF60.o (Nat.le_of_ble_eq_true rfl) (rrb rfl) (kX1_isInState hF60 ?_)
      show AW X G _ _ _ _ _ _ _ _
      refine r_if_eqb (tgt := 154) (pc' := 142) h dX4_writeTurbine_139 (by decide) rfl (fun c3 => ?_) (fun c3 => ?_)
      · refine r_aload_n (pc' := 155) h dX4_writeTurbine_154 rfl rfl ?_
        refine gX4_10 (pc' := 158) h dX4_writeTurbine_155 rfl hD6.l0 hD6.o0 rfl ?_
        refine r_iload_n (pc' := 159) h dX4_writeTurbine_158 rfl rfl ?_
        refine r_iconst (pc' := 160) (v := 3) h dX4_writeTurbine_159 rfl (by decide) ?_
        refine r_callV2 (pc' := 163) (M := mX1_isInState) h hm dX4_writeTurbine_160 rfl lX4_112 vX1_isInState rfl hF60.l0 hF60.o (Nat.le_of_ble_eq_true rfl) (rrb rfl) (kX1_isInState hF60 ?_)
        show AW X G _ _ _ _ _ _ _ _
        refine r_if_eqb (tgt := 183) (pc' := 166) h dX4_writeTurbine_163 (by decide) rfl (fun c4 => ?_) (fun c4 => ?_)
        · refine r_aload_n (pc' := 184) h dX4_writeTurbine_183 rfl rfl ?_
          refine gX4_39 (pc' := 187) h dX4_writeTurbine_184 rfl hD6.l0 hD6.o0 rfl ?_
          refine gX4_281 (pc' := 190) h dX4_writeTurbine_187 rfl hD6.t2.l0 hD6.t2.o rfl ?_
          refine r_ireturn h hm dX4_writeTurbine_190 (Nat.le_of_ble_eq_true rfl) (Nat.le_of_ble_eq_true rfl) ?_
          refine kD hk hD6 ((((((hR1).trans hR2).trans hR3).trans hR4).trans hR5).trans hR6) ?_
          rw [zWt, if_pos c0, zW6, if_neg (by rw [c2]; decide), if_neg (by rw [c3]; decide), if_neg (by rw [c4]; decide)]
          subst z6 z5 z4 z3 z2 z1
          rfl
        · skip
          refine r_aload_n (pc' := 167) h dX4_writeTurbine_166 rfl rfl ?_
          refine r_bipush (pc' := 169) (v := 115) h dX4_writeTurbine_167 rfl (by decide) ?_
          refine r_aload_n (pc' := 170) h dX4_writeTurbine_169 rfl rfl ?_
          refine gX4_10 (pc' := 173) h dX4_writeTurbine_170 rfl hD6.l0 hD6.o0 rfl ?_
          refine gX4_126 (pc' := 176) h dX4_writeTurbine_173 rfl hF60.l0 hF60.o rfl ?_
          refine r_iload_n (pc' := 177) h dX4_writeTurbine_176 rfl rfl ?_
          refine r_callS2 (pc' := 180) (M := mX4_valueAt) h hm dX4_writeTurbine_177 rfl lX4_102 vX4_valueAt (Nat.le_of_ble_eq_true rfl) (rrb rfl) (kX4_valueAt hF60.l6 hF60.r6 (by decide) ?_)
          show AW X G _ _ _ _ _ _ _ _
          refine r_callV2 (pc' := 183) (M := mX4_writeNumber) h hm dX4_writeTurbine_180 rfl lX4_274 vX4_writeNumber rfl hD6.l0 hD6.o0 (Nat.le_of_ble_eq_true rfl) (rrb rfl) (kX4_writeNumber hD6 (fun S7 hD7 hR7 => ?_))
          obtain ⟨Z7, z7, hD7⟩ := nmD hD7
          have g7 : dF Z7 0 = dF D 0 := by rw [z7]; exact g6
          have hF70 : isF G N S7 1 (dF D 0) := by rw [← g7]; exact hD7.f0
          show AW X G _ _ _ _ _ _ _ _
          refine r_aload_n (pc' := 184) h dX4_writeTurbine_183 rfl rfl ?_
          refine gX4_39 (pc' := 187) h dX4_writeTurbine_184 rfl hD7.l0 hD7.o0 rfl ?_
          refine gX4_281 (pc' := 190) h dX4_writeTurbine_187 rfl hD7.t2.l0 hD7.t2.o rfl ?_
          refine r_ireturn h hm dX4_writeTurbine_190 (Nat.le_of_ble_eq_true rfl) (Nat.le_of_ble_eq_true rfl) ?_
          refine kD hk hD7 (((((((hR1).trans hR2).trans hR3).trans hR4).trans hR5).trans hR6).trans hR7) ?_
          rw [zWt, if_pos c0, zW6, if_neg (by rw [c2]; decide), if_neg (by rw [c3]; decide), if_pos c4]
          subst z7 z6 z5 z4 z3 z2 z1
          rfl
      · skip
        refine r_aload_n (pc' := 143) h dX4_writeTurbine_142 rfl rfl ?_
        refine gX4_39 (pc' := 146) h dX4_writeTurbine_143 rfl hD6.l0 hD6.o0 rfl ?_
        refine r_bipush (pc' := 148) (v := 120) h dX4_writeTurbine_146 rfl (by decide) ?_
        refine r_callV1 (pc' := 151) (M := mX3_add) h hm dX4_writeTurbine_148 rfl lX4_278 vX3_add rfl hD6.t2.l0 hD6.t2.o (Nat.le_of_ble_eq_true rfl) (rrb rfl) (kX3_add hD6.t2 (fun S8 hT8 hTR8 => ?_))
        have hD8 := hD6.vt2 hT8 hTR8
        have hR8 := DR.t hTR8 (by decide)
        obtain ⟨Z8, z8, hD8⟩ := nmD hD8
        have g8 : dF Z8 0 = dF D 0 := by rw [z8]; exact g6
        have hF80 : isF G N S8 1 (dF D 0) := by rw [← g8]; exact hD8.f0
        show AW X G _ _ _ _ _ _ _ _
        refine r_goto (tgt := 183) h dX4_writeTurbine_151 (by decide) ?_
        refine r_aload_n (pc' := 184) h dX4_writeTurbine_183 rfl rfl ?_
        refine gX4_39 (pc' := 187) h dX4_writeTurbine_184 rfl hD8.l0 hD8.o0 rfl ?_
        refine gX4_281 (pc' := 190) h dX4_writeTurbine_187 rfl hD8.t2.l0 hD8.t2.o rfl ?_
        refine r_ireturn h hm dX4_writeTurbine_190 (Nat.le_of_ble_eq_true rfl) (Nat.le_of_ble_eq_true rfl) ?_
        refine kD hk hD8 (((((((hR1).trans hR2).trans hR3).trans hR4).trans hR5).trans hR6).trans hR8) ?_
        rw [zWt, if_pos c0, zW6, if_neg (by rw [c2]; decide), if_pos c3]
        subst z8 z6 z5 z4 z3 z2 z1
        rfl
    · skip
      refine r_aload_n (pc' := 111) h dX4_writeTurbine_110 rfl rfl ?_
      refine r_bipush (pc' := 113) (v := 60) h dX4_writeTurbine_111 rfl (by decide) ?_
      refine r_aload_n (pc' := 114) h dX4_writeTurbine_113 rfl rfl ?_
      refine gX4_10 (pc' := 117) h dX4_writeTurbine_114 rfl hD6.l0 hD6.o0 rfl ?_
      refine gX4_121 (pc' := 120) h dX4_writeTurbine_117 rfl hF60.l0 hF60.o rfl ?_
      refine r_iload_n (pc' := 121) h dX4_writeTurbine_120 rfl rfl ?_
      refine r_callS2 (pc' := 124) (M := mX4_valueAt) h hm dX4_writeTurbine_121 rfl lX4_102 vX4_valueAt (Nat.le_of_ble_eq_true rfl) (rrb rfl) (kX4_valueAt hF60.l5 hF60.r5 (by decide) ?_)
      show AW X G _ _ _ _ _ _ _ _
      refine r_callV2 (pc' := 127) (M := mX4_writeNumber) h hm dX4_writeTurbine_124 rfl lX4_274 vX4_writeNumber rfl hD6.l0 hD6.o0 (Nat.le_of_ble_eq_true rfl) (rrb rfl) (kX4_writeNumber hD6 (fun S9 hD9 hR9 => ?_))
      obtain ⟨Z9, z9, hD9⟩ := nmD hD9
      have g9 : dF Z9 0 = dF D 0 := by rw [z9]; exact g6
      have hF90 : isF G N S9 1 (dF D 0) := by rw [← g9]; exact hD9.f0
      show AW X G _ _ _ _ _ _ _ _
      refine r_goto (tgt := 183) h dX4_writeTurbine_127 (by decide) ?_
      refine r_aload_n (pc' := 184) h dX4_writeTurbine_183 rfl rfl ?_
      refine gX4_39 (pc' := 187) h dX4_writeTurbine_184 rfl hD9.l0 hD9.o0 rfl ?_
      refine gX4_281 (pc' := 190) h dX4_writeTurbine_187 rfl hD9.t2.l0 hD9.t2.o rfl ?_
      refine r_ireturn h hm dX4_writeTurbine_190 (Nat.le_of_ble_eq_true rfl) (Nat.le_of_ble_eq_true rfl) ?_
      refine kD hk hD9 (((((((hR1).trans hR2).trans hR3).trans hR4).trans hR5).trans hR6).trans hR9) ?_
      rw [zWt, if_pos c0, zW6, if_pos c2]
      subst z9 z6 z5 z4 z3 z2 z1
      rfl
  · show K (.inr _) _
    exact kD hk hD DR.rfl' (by rw [zWt]; exact if_neg (by rw [c1]; decide))
