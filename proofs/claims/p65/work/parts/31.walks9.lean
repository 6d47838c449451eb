/-! THE WALKS: an order's change of a farm; texts; the history. -/
theorem kX3_clear {l : Launch} {G : GX} {N : Nat} {S : Nat → va_E} {K : RK} {b : Nat} {T : TX} (hT : isT G N S b T) (hk : ∀ S1, isT G N S1 b (((0, T.2) : TX)) → TR b S S1 → K (.inl none) S1) : RetK l G N mX3_clear (0, 0, 0, 0) [.ref (ad G b)] S K := by
  refine ret_enter (by decide +kernel) (Nat.le_of_ble_eq_true rfl) (fun X hX h hm => ?_)
  subst hX
  replace h : OK X G N cX3_clear RX3 1 (0, 0, 0, 0) := h
  replace hm : OKm X G N K none (0, 0, 0, 0) := hm
  show AW X G 1 N 0 [(0, _)] [] S 0 0
  refine r_aload_n (pc' := 1) h dX3_clear_0 rfl rfl ?_
  refine r_iconst (pc' := 2) (v := 0) h dX3_clear_1 rfl (by decide) ?_
  refine pX3_15 (pc' := 5) h dX3_clear_2 rfl hT.l0 hT.o (Nat.le_of_ble_eq_true rfl) ?_
  refine wT0 hT (fun S1 hT1 hR1 => ?_)
  refine r_return h hm dX3_clear_5 (Nat.le_of_ble_eq_true rfl) (Nat.le_of_ble_eq_true rfl) ?_
  exact hk _ hT1 hR1
theorem kX3_add {l : Launch} {G : GX} {N : Nat} {S : Nat → va_E} {K : RK} {b : Nat} {T : TX} (hT : isT G N S b T) {c : Int32} (hk : ∀ S1, isT G N S1 b (tAdd T c) → TR b S S1 → K (.inl none) S1) : RetK l G N mX3_add (0, 0, 0, 0) [.ref (ad G b), .int c] S K := by
  refine ret_enter (by decide +kernel) (Nat.le_of_ble_eq_true rfl) (fun X hX h hm => ?_)
  subst hX
  replace h : OK X G N cX3_add RX3 2 (0, 0, 0, 0) := h
  replace hm : OKm X G N K none (0, 0, 0, 0) := hm
  show AW X G 2 N 0 [(0, _), (1, _)] [] S 0 0
  refine r_aload_n (pc' := 1) h dX3_add_0 rfl rfl ?_
  refine gX3_15 (pc' := 4) h dX3_add_1 rfl hT.l0 hT.o rfl ?_
  refine r_if_lt (tgt := 39) (pc' := 7) h dX3_add_4 (by decide) rfl (fun c0 => ?_) (fun c0 => ?_)
  · refine r_return h hm dX3_add_39 (Nat.le_of_ble_eq_true rfl) (Nat.le_of_ble_eq_true rfl) ?_
    exact hk _ (by rw [tAdd, if_pos c0]; exact hT) TR.rfl'
  · refine r_aload_n (pc' := 8) h dX3_add_7 rfl rfl ?_
    refine gX3_15 (pc' := 11) h dX3_add_8 rfl hT.l0 hT.o rfl ?_
    refine r_aload_n (pc' := 12) h dX3_add_11 rfl rfl ?_
    refine gX3_9 (pc' := 15) h dX3_add_12 rfl hT.l0 hT.o rfl ?_
    refine r_alen (pc' := 16) (t := 1) h dX3_add_15 rfl hT.l1 hT.r rfl ?_
    refine r_icmp_ge (tgt := 39) (pc' := 19) h dX3_add_16 (by decide) rfl (fun c1 => ?_) (fun c1 => ?_)
    · refine r_return h hm dX3_add_39 (Nat.le_of_ble_eq_true rfl) (Nat.le_of_ble_eq_true rfl) ?_
      exact hk _ (by rw [tAdd, if_neg c0, if_pos c1]; exact hT) TR.rfl'
    · refine r_aload_n (pc' := 20) h dX3_add_19 rfl rfl ?_
      refine gX3_9 (pc' := 23) h dX3_add_20 rfl hT.l0 hT.o rfl ?_
      refine r_aload_n (pc' := 24) h dX3_add_23 rfl rfl ?_
      refine gX3_15 (pc' := 27) h dX3_add_24 rfl hT.l0 hT.o rfl ?_
      refine r_iload_n (pc' := 28) h dX3_add_27 rfl rfl ?_
      refine r_cast (pc' := 29) h dX3_add_28 rfl hT.l1 hT.r (vp_in_c (by decide) c0 c1) ?_
      refine wT1 hT (fun S1 hT1 hR1 => ?_)
      refine r_aload_n (pc' := 30) h dX3_add_29 rfl rfl ?_
      refine r_dup (pc' := 31) h dX3_add_30 rfl rfl ?_
      refine gX3_15 (pc' := 34) h dX3_add_31 rfl hT1.l0 hT1.o rfl ?_
      refine r_iconst (pc' := 35) (v := 1) h dX3_add_34 rfl (by decide) ?_
      refine r_iadd (pc' := 36) h dX3_add_35 rfl ?_
      refine pX3_15 (pc' := 39) h dX3_add_36 rfl hT1.l0 hT1.o (Nat.le_of_ble_eq_true rfl) ?_
      refine wT0 hT1 (fun S2 hT2 hR2 => ?_)
      refine r_return h hm dX3_add_39 (Nat.le_of_ble_eq_true rfl) (Nat.le_of_ble_eq_true rfl) ?_
      exact hk _ (by rw [tAdd, if_neg c0, if_neg c1]; exact hT2) (hR1.trans hR2)
theorem kX3_addNumber {l : Launch} {G : GX} {N : Nat} {S : Nat → va_E} {K : RK} {b : Nat} {T : TX} (hT : isT G N S b T) {v : Int32} (hk : ∀ S1, isT G N S1 b (tNum T v) → TR b S S1 → K (.inl none) S1) : RetK l G N mX3_addNumber (1, 21, 0, 0) [.ref (ad G b), .int v] S K := by
  refine ret_enter (by decide +kernel) (Nat.le_of_ble_eq_true rfl) (fun X hX h hm => ?_)
  subst hX
  replace h : OK X G N cX3_addNumber RX3 2 (1, 21, 0, 0) := h
  replace hm : OKm X G N K none (1, 21, 0, 0) := hm
  show AW X G 2 N 0 [(0, _), (1, _)] [] S 0 0
  refine r_iload_n (pc' := 1) h dX3_addNumber_0 rfl rfl ?_
  refine r_bipush (pc' := 3) (v := 10) h dX3_addNumber_1 rfl (by decide) ?_
  refine r_icmp_lt (tgt := 21) (pc' := 6) h dX3_addNumber_3 (by decide) rfl (fun c0 => ?_) (fun c0 => ?_)
  · skip
    refine r_aload_n (pc' := 22) h dX3_addNumber_21 rfl rfl ?_
    refine r_bipush (pc' := 24) (v := 48) h dX3_addNumber_22 rfl (by decide) ?_
    refine r_iload_n (pc' := 25) h dX3_addNumber_24 rfl rfl ?_
    refine r_bipush (pc' := 27) (v := 10) h dX3_addNumber_25 rfl (by decide) ?_
    refine r_irem (pc' := 28) h dX3_addNumber_27 rfl (by decide) ?_
    refine r_iadd (pc' := 29) h dX3_addNumber_28 rfl ?_
    refine r_i2c (pc' := 30) h dX3_addNumber_29 rfl ?_
    refine r_callV1 (pc' := 33) (M := mX3_add) h hm dX3_addNumber_30 rfl lX3_19 vX3_add rfl hT.l0 hT.o (Nat.le_of_ble_eq_true rfl) (rrb rfl) (kX3_add hT (fun S1 hT1 hR1 => ?_))
    show AW X G _ _ _ _ _ _ _ _
    refine r_return h hm dX3_addNumber_33 (Nat.le_of_ble_eq_true rfl) (Nat.le_of_ble_eq_true rfl) ?_
    exact hk _ (by rw [tNum, tNu1, if_pos c0]; exact hT1) hR1
  · skip
    refine r_aload_n (pc' := 7) h dX3_addNumber_6 rfl rfl ?_
    refine r_bipush (pc' := 9) (v := 48) h dX3_addNumber_7 rfl (by decide) ?_
    refine r_iload_n (pc' := 10) h dX3_addNumber_9 rfl rfl ?_
    refine r_bipush (pc' := 12) (v := 10) h dX3_addNumber_10 rfl (by decide) ?_
    refine r_idiv (pc' := 13) h dX3_addNumber_12 rfl (by decide) ?_
    refine r_bipush (pc' := 15) (v := 10) h dX3_addNumber_13 rfl (by decide) ?_
    refine r_irem (pc' := 16) h dX3_addNumber_15 rfl (by decide) ?_
    refine r_iadd (pc' := 17) h dX3_addNumber_16 rfl ?_
    refine r_i2c (pc' := 18) h dX3_addNumber_17 rfl ?_
    refine r_callV1 (pc' := 21) (M := mX3_add) h hm dX3_addNumber_18 rfl lX3_19 vX3_add rfl hT.l0 hT.o (Nat.le_of_ble_eq_true rfl) (rrb rfl) (kX3_add hT (fun S2 hT2 hR2 => ?_))
    show AW X G _ _ _ _ _ _ _ _
    refine r_aload_n (pc' := 22) h dX3_addNumber_21 rfl rfl ?_
    refine r_bipush (pc' := 24) (v := 48) h dX3_addNumber_22 rfl (by decide) ?_
    refine r_iload_n (pc' := 25) h dX3_addNumber_24 rfl rfl ?_
    refine r_bipush (pc' := 27) (v := 10) h dX3_addNumber_25 rfl (by decide) ?_
    refine r_irem (pc' := 28) h dX3_addNumber_27 rfl (by decide) ?_
    refine r_iadd (pc' := 29) h dX3_addNumber_28 rfl ?_
    refine r_i2c (pc' := 30) h dX3_addNumber_29 rfl ?_
    refine r_callV1 (pc' := 33) (M := mX3_add) h hm dX3_addNumber_30 rfl lX3_19 vX3_add rfl hT2.l0 hT2.o (Nat.le_of_ble_eq_true rfl) (rrb rfl) (kX3_add hT2 (fun S3 hT3 hR3 => ?_))
    show AW X G _ _ _ _ _ _ _ _
    refine r_return h hm dX3_addNumber_33 (Nat.le_of_ble_eq_true rfl) (Nat.le_of_ble_eq_true rfl) ?_
    exact hk _ (by rw [tNum, tNu1, if_neg c0]; exact hT3) (hR2.trans hR3)
theorem kX3_signAt {l : Launch} {G : GX} {N : Nat} {S : Nat → va_E} {K : RK} {b : Nat} {T : TX} (hT : isT G N S b T) {i : Int32} (hch : rowC T.2) (hk : K (.inl (some (.int (tSig T i)))) S) : RetK l G N mX3_signAt (0, 0, 0, 0) [.ref (ad G b), .int i] S K := by
  refine ret_enter (by decide +kernel) (Nat.le_of_ble_eq_true rfl) (fun X hX h hm => ?_)
  subst hX
  replace h : OK X G N cX3_signAt RX3 2 (0, 0, 0, 0) := h
  replace hm : OKm X G N K (some .char) (0, 0, 0, 0) := hm
  show AW X G 2 N 0 [(0, _), (1, _)] [] S 0 0
  refine r_iload_n (pc' := 1) h dX3_signAt_0 rfl rfl ?_
  refine r_if_lt (tgt := 30) (pc' := 4) h dX3_signAt_1 (by decide) rfl (fun c0 => ?_) (fun c0 => ?_)
  · refine r_iconst (pc' := 31) (v := 0) h dX3_signAt_30 rfl (by decide) ?_
    refine r_zreturn h hm dX3_signAt_31 (Nat.le_of_ble_eq_true rfl) (Nat.le_of_ble_eq_true rfl) (by first | exact (hch _).1 | rfl) ?_
    exact kI hk (by first | rfl | contradiction | simp [tSig, c0])
  · refine r_iload_n (pc' := 5) h dX3_signAt_4 rfl rfl ?_
    refine r_aload_n (pc' := 6) h dX3_signAt_5 rfl rfl ?_
    refine gX3_15 (pc' := 9) h dX3_signAt_6 rfl hT.l0 hT.o rfl ?_
    refine r_icmp_ge (tgt := 30) (pc' := 12) h dX3_signAt_9 (by decide) rfl (fun c1 => ?_) (fun c1 => ?_)
    · refine r_iconst (pc' := 31) (v := 0) h dX3_signAt_30 rfl (by decide) ?_
      refine r_zreturn h hm dX3_signAt_31 (Nat.le_of_ble_eq_true rfl) (Nat.le_of_ble_eq_true rfl) (by first | exact (hch _).1 | rfl) ?_
      exact kI hk (by first | rfl | contradiction | simp [tSig, c0, c1])
    · refine r_iload_n (pc' := 13) h dX3_signAt_12 rfl rfl ?_
      refine r_aload_n (pc' := 14) h dX3_signAt_13 rfl rfl ?_
      refine gX3_9 (pc' := 17) h dX3_signAt_14 rfl hT.l0 hT.o rfl ?_
      refine r_alen (pc' := 18) (t := 1) h dX3_signAt_17 rfl hT.l1 hT.r rfl ?_
      refine r_icmp_ge (tgt := 30) (pc' := 21) h dX3_signAt_18 (by decide) rfl (fun c2 => ?_) (fun c2 => ?_)
      · refine r_iconst (pc' := 31) (v := 0) h dX3_signAt_30 rfl (by decide) ?_
        refine r_zreturn h hm dX3_signAt_31 (Nat.le_of_ble_eq_true rfl) (Nat.le_of_ble_eq_true rfl) (by first | exact (hch _).1 | rfl) ?_
        exact kI hk (by first | rfl | contradiction | simp [tSig, c0, c1, c2])
      · refine r_aload_n (pc' := 22) h dX3_signAt_21 rfl rfl ?_
        refine gX3_9 (pc' := 25) h dX3_signAt_22 rfl hT.l0 hT.o rfl ?_
        refine r_iload_n (pc' := 26) h dX3_signAt_25 rfl rfl ?_
        refine r_cald (pc' := 27) h dX3_signAt_26 rfl hT.l1 hT.r (vp_in_c (by decide) c0 c2) ?_
        refine r_goto (tgt := 31) h dX3_signAt_27 (by decide) ?_
        refine r_zreturn h hm dX3_signAt_31 (Nat.le_of_ble_eq_true rfl) (Nat.le_of_ble_eq_true rfl) (by first | exact (hch _).1 | rfl) ?_
        exact kI hk (by first | rfl | contradiction | simp [tSig, c0, c1, c2])
theorem kX2_farmAt {l : Launch} {G : GX} {N : Nat} {S : Nat → va_E} {K : RK} {D : DM} (hD : isD G N S D) {j : Nat} (hj : j < 8) (hk : K (.inl (some (.ref (ad G (33 + 10 * j))))) S) : RetK l G N mX2_farmAt (0, 0, 0, 0) [.ref (ad G 31), .int (nI j)] S K := by
  refine ret_enter (by decide +kernel) (Nat.le_of_ble_eq_true rfl) (fun X hX h hm => ?_)
  subst hX
  replace h : OK X G N cX2_farmAt RX2 2 (0, 0, 0, 0) := h
  replace hm : OKm X G N K (some (.object "WindFarmDispatcher$Farm")) (0, 0, 0, 0) := hm
  show AW X G 2 N 0 [(0, _), (1, _)] [] S 0 0
  refine r_iload_n (pc' := 1) h dX2_farmAt_0 rfl rfl ?_
  refine r_if_lt (tgt := 22) (pc' := 4) h dX2_farmAt_1 (by decide) rfl (fun c0 => ?_) (fun c0 => ?_)
  · exact absurd c0 (nI_pos (by omega))
  · refine r_iload_n (pc' := 5) h dX2_farmAt_4 rfl rfl ?_
    refine r_aload_n (pc' := 6) h dX2_farmAt_5 rfl rfl ?_
    refine gX2_11 (pc' := 9) h dX2_farmAt_6 rfl hD.l31 hD.o31 rfl ?_
    refine r_alen (pc' := 10) (t := 4) h dX2_farmAt_9 rfl hD.l32 hD.o32 rfl ?_
    refine r_icmp_ge (tgt := 22) (pc' := 13) h dX2_farmAt_10 (by decide) rfl (fun c1 => ?_) (fun c1 => ?_)
    · exact absurd c1 (nI_ge hj (show (8 : Nat) < 2 ^ 31 by decide))
    · refine r_aload_n (pc' := 14) h dX2_farmAt_13 rfl rfl ?_
      refine gX2_11 (pc' := 17) h dX2_farmAt_14 rfl hD.l31 hD.o31 rfl ?_
      refine r_iload_n (pc' := 18) h dX2_farmAt_17 rfl rfl ?_
      refine r_aald (pc' := 19) h dX2_farmAt_18 rfl hD.l32 hD.o32 (vp_in_nI hj (by decide)) ?_
      rw [nI_clamp (by omega)]
      refine r_goto (tgt := 23) h dX2_farmAt_19 (by decide) ?_
      refine r_areturn h hm dX2_farmAt_23 (Nat.le_of_ble_eq_true rfl) (Nat.le_of_ble_eq_true rfl) (Or.inr ⟨_, rfl⟩) ?_
      exact hk
theorem kX2_keep {l : Launch} {G : GX} {N : Nat} {S : Nat → va_E} {K : RK} {D : DM} (hD : isD G N S D) {j : Nat} (hj : j < 8) (h5 : dI D 5 = nI j) (hn0 : nF (dF D 0)) (hn1 : nF (dF D (3 + j))) (hch : isCh (fI (dF D 0) 1)) (hk : ∀ S1, isD G N S1 (hKp D j) → DR S S1 → K (.inl none) S1) : RetK l G N mX2_keep (2, 43, 0, 0) [.ref (ad G 31), .ref (ad G 1)] S K := by
  refine ret_enter (by decide +kernel) (Nat.le_of_ble_eq_true rfl) (fun X hX h hm => ?_)
  subst hX
  replace h : OK X G N cX2_keep RX2 3 (2, 43, 0, 0) := h
  replace hm : OKm X G N K none (2, 43, 0, 0) := hm
  show AW X G 3 N 0 [(0, _), (1, _)] [] S 0 0
  refine r_aload_n (pc' := 1) h dX2_keep_0 rfl rfl ?_
  refine r_aload_n (pc' := 2) h dX2_keep_1 rfl rfl ?_
  refine gX2_18 (pc' := 5) h dX2_keep_2 rfl hD.l31 hD.o31 rfl ?_
  refine aw_st (by rw [h5]) ?_
  refine r_callV1 (pc' := 8) (M := mX2_farmAt) h hm dX2_keep_5 rfl lX2_22 vX2_farmAt rfl hD.l31 hD.o31 (Nat.le_of_ble_eq_true rfl) (rrb rfl) (kX2_farmAt hD hj ?_)
  show AW X G _ _ _ _ _ _ _ _
  refine r_astoren (j := 2) (pc' := 9) h rfl dX2_keep_8 rfl (by decide) rfl ?_
  refine r_aload_n (pc' := 10) h dX2_keep_9 rfl rfl ?_
  refine r_ifnull (pc' := 13) h dX2_keep_10 rfl ?_
  refine r_aload_n (pc' := 14) h dX2_keep_13 rfl rfl ?_
  refine r_aload_n (pc' := 15) h dX2_keep_14 rfl rfl ?_
  refine r_callV1 (pc' := 18) (M := mX1_copyFrom) h hm dX2_keep_15 rfl lX2_26 vX1_copyFrom rfl (hD.fk hj).l0 (hD.fk hj).o (Nat.le_of_ble_eq_true rfl) (rrb rfl) (kX1_copyFrom (hD.fk hj) hD.f0 (by omega) hn1 hn0 hch (fun S1 hF1 hFR1 => ?_))
  have hD1 := isD.uk hj hD hF1 hFR1
  have hR1 := DR.f hFR1 (by omega)
  show AW X G _ _ _ _ _ _ _ _
  refine r_aload_n (pc' := 19) h dX2_keep_18 rfl rfl ?_
  refine r_aload_n (pc' := 20) h dX2_keep_19 rfl rfl ?_
  refine gX2_18 (pc' := 23) h dX2_keep_20 rfl hD1.l31 hD1.o31 rfl ?_
  refine r_iconst (pc' := 24) (v := 1) h dX2_keep_23 rfl (by decide) ?_
  refine r_iadd (pc' := 25) h dX2_keep_24 rfl ?_
  refine r_bipush (pc' := 27) (v := 8) h dX2_keep_25 rfl (by decide) ?_
  refine r_irem (pc' := 28) h dX2_keep_27 rfl (by decide) ?_
  refine pX2_18 (pc' := 31) h dX2_keep_28 rfl hD1.l31 hD1.o31 (Nat.le_of_ble_eq_true rfl) ?_
  refine wD5 hD1 (fun S2 hD2 hR2 => ?_)
  refine r_aload_n (pc' := 32) h dX2_keep_31 rfl rfl ?_
  refine r_aload_n (pc' := 33) h dX2_keep_32 rfl rfl ?_
  refine gX2_30 (pc' := 36) h dX2_keep_33 rfl hD2.l31 hD2.o31 rfl ?_
  refine r_iconst (pc' := 37) (v := 1) h dX2_keep_36 rfl (by decide) ?_
  refine r_iadd (pc' := 38) h dX2_keep_37 rfl ?_
  refine r_bipush (pc' := 40) (v := 8) h dX2_keep_38 rfl (by decide) ?_
  refine r_min (pc' := 43) (own := RX2) h dX2_keep_40 rfl lX2_33 (rrm rfl) ?_
  refine pX2_30 (pc' := 46) h dX2_keep_43 rfl hD2.l31 hD2.o31 (Nat.le_of_ble_eq_true rfl) ?_
  refine wD6 hD2 (fun S3 hD3 hR3 => ?_)
  refine r_return h hm dX2_keep_46 (Nat.le_of_ble_eq_true rfl) (Nat.le_of_ble_eq_true rfl) ?_
  refine hk _ ?_ (((hR1).trans hR2).trans hR3)
  have e9 := hD3
  have e8 : nI j + 1 - (nI j + 1) / 8 * 8 = nI ((j + 1) % 8) := by rw [nI_1]; exact pk_rem (by omega) (by decide) (by decide)
  simp only [dI_sF, dI_sD] at e9
  rw [h5, e8] at e9
  exact e9
