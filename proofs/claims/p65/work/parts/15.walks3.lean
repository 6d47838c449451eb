/-! THE WALKS: the farm's loops that change it, copies. -/
theorem kX1_endAllLimits {l : Launch} {G : GX} {N : Nat} {S : Nat → va_E} {K : RK} {b : Nat} {F : FM} (hF : isF G N S b F) (hw : wF F) (hk : ∀ S1, isF G N S1 b ((fEal F (fN F)).1) → FR b S S1 → K (.inl (some (.int ((fEal F (fN F)).2)))) S1) : RetK l G N mX1_endAllLimits (2, 43, 0, 0) [.ref (ad G b)] S K := by
  refine ret_enter (by decide +kernel) (Nat.le_of_ble_eq_true rfl) (fun X hX h hm => ?_)
  subst hX
  replace h : OK X G N cX1_endAllLimits RX1 3 (2, 43, 0, 0) := h
  replace hm : OKm X G N K (some .int) (2, 43, 0, 0) := hm
  show AW X G 3 N 0 [(0, _)] [] S 0 0
  refine r_iconst (pc' := 1) (v := 0) h dX1_endAllLimits_0 rfl (by decide) ?_
  refine r_istoren (j := 1) (pc' := 2) h rfl dX1_endAllLimits_1 rfl (by decide) rfl ?_
  refine r_iconst (pc' := 3) (v := 0) h dX1_endAllLimits_2 rfl (by decide) ?_
  refine r_istoren (j := 2) (pc' := 4) h rfl dX1_endAllLimits_3 rfl (by decide) rfl ?_
  have loop : ∀ (n j : Nat), j ≤ fN F → fN F - j < n → ∀ Sj, isF G N Sj b ((fEal F j).1) → FR b S Sj → AW X G 3 N 4 [(0, .ref (ad G b)), (1, .int (fEal F j).2), (2, .int (nI j))] [] Sj 0 0 := by
    intro n
    induction n with
    | zero => intro j h1 h2; exact absurd h2 (by omega)
    | succ n ih =>
      intro j h1 h2 Sj hj1 hr1
      refine r_iload_n (pc' := 5) h dX1_endAllLimits_4 rfl rfl ?_
      refine r_aload_n (pc' := 6) h dX1_endAllLimits_5 rfl rfl ?_
      refine gX1_51 (pc' := 9) h dX1_endAllLimits_6 rfl hj1.l0 hj1.o rfl ?_
      refine r_icmp_ge (tgt := 38) (pc' := 12) h dX1_endAllLimits_9 (by decide) rfl (fun c0 => ?_) (fun c0 => ?_)
      · have ej := lp_ge (c := fN F) (by rw [fEal_I]; exact hw.1) (by have := hw.2; omega) h1 c0
        subst ej
        refine r_iload_n (pc' := 39) h dX1_endAllLimits_38 rfl rfl ?_
        refine r_ireturn h hm dX1_endAllLimits_39 (Nat.le_of_ble_eq_true rfl) (Nat.le_of_ble_eq_true rfl) ?_
        exact kI (hk _ hj1 hr1) (by first | rfl | contradiction | simp [c0])
      · have hj := lp_lt (c := fN F) (by rw [fEal_I]; exact hw.1) (by have := hw.2; omega) h1 c0
        refine r_aload_n (pc' := 13) h dX1_endAllLimits_12 rfl rfl ?_
        refine r_iload_n (pc' := 14) h dX1_endAllLimits_13 rfl rfl ?_
        refine r_callV1 (pc' := 17) (M := mX1_isCurtailed) h hm dX1_endAllLimits_14 rfl lX1_176 vX1_isCurtailed rfl hj1.l0 hj1.o (Nat.le_of_ble_eq_true rfl) (rrb rfl) (kX1_isCurtailed hj1 ?_)
        show AW X G _ _ _ _ _ _ _ _
        refine r_if_eqb (tgt := 32) (pc' := 20) h dX1_endAllLimits_17 (by decide) rfl (fun c1 => ?_) (fun c1 => ?_)
        · refine r_iinc (pc' := 35) (v := 1) h dX1_endAllLimits_32 rfl (by decide) (by decide) rfl rfl ?_
          refine r_goto (tgt := 4) h dX1_endAllLimits_35 (by decide) ?_
          have hz : isF G N Sj b ((fEal F (j + 1)).1) := by simpa [fEal, fChg, c0, c1] using hj1
          exact aw_cast (by simp [fEal, nI_1, c0, c1]) (ih (j + 1) (by omega) (by omega) _ hz hr1)
        · refine r_aload_n (pc' := 21) h dX1_endAllLimits_20 rfl rfl ?_
          refine gX1_24 (pc' := 24) h dX1_endAllLimits_21 rfl hj1.l0 hj1.o rfl ?_
          refine r_iload_n (pc' := 25) h dX1_endAllLimits_24 rfl rfl ?_
          refine r_iconst (pc' := 26) (v := -1) h dX1_endAllLimits_25 rfl (by decide) ?_
          refine r_callSN3 (pc' := 29) (M := mX4_setValue) h hm dX1_endAllLimits_26 rfl lX1_226 vX4_setValue (Nat.le_of_ble_eq_true rfl) (rrb rfl) (kX4_setValue hj1.l5 hj1.r5 (by decide) ?_)
          show AW X G _ _ _ _ _ _ _ _
          refine wA4 hj1 (fun S1 hF1 hR1 => ?_)
          refine r_iinc (pc' := 32) (v := 1) h dX1_endAllLimits_29 rfl (by decide) (by decide) rfl rfl ?_
          refine r_iinc (pc' := 35) (v := 1) h dX1_endAllLimits_32 rfl (by decide) (by decide) rfl rfl ?_
          refine r_goto (tgt := 4) h dX1_endAllLimits_35 (by decide) ?_
          have hz : isF G N S1 b ((fEal F (j + 1)).1) := by simpa [fEal, fChg, c0, c1] using hF1
          exact aw_cast (by simp [fEal, nI_1, c0, c1]) (ih (j + 1) (by omega) (by omega) _ hz (hr1.trans hR1))
  exact loop (fN F + 1) 0 (Nat.zero_le _) (by omega) _ hF FR.rfl'
theorem kX1_workOnServices {l : Launch} {G : GX} {N : Nat} {S : Nat → va_E} {K : RK} {b : Nat} {F : FM} (hF : isF G N S b F) (hw : wF F) (hk : ∀ S1, isF G N S1 b (fWos F (fN F)) → FR b S S1 → K (.inl none) S1) : RetK l G N mX1_workOnServices (1, 22, 0, 0) [.ref (ad G b)] S K := by
  refine ret_enter (by decide +kernel) (Nat.le_of_ble_eq_true rfl) (fun X hX h hm => ?_)
  subst hX
  replace h : OK X G N cX1_workOnServices RX1 3 (1, 22, 0, 0) := h
  replace hm : OKm X G N K none (1, 22, 0, 0) := hm
  show AW X G 3 N 0 [(0, _)] [] S 0 0
  refine r_iconst (pc' := 1) (v := 0) h dX1_workOnServices_0 rfl (by decide) ?_
  refine r_istoren (j := 1) (pc' := 2) h rfl dX1_workOnServices_1 rfl (by decide) rfl ?_
  have loop : ∀ (n j : Nat), j ≤ fN F → fN F - j < n → ∀ Sj, isF G N Sj b (fWos F j) → FR b S Sj → AW X G 3 N 2 [(0, .ref (ad G b)), (1, .int (nI j))] [] Sj 0 0 := by
    intro n
    induction n with
    | zero => intro j h1 h2; exact absurd h2 (by omega)
    | succ n ih =>
      intro j h1 h2 Sj hj1 hr1
      refine r_iload_n (pc' := 3) h dX1_workOnServices_2 rfl rfl ?_
      refine r_aload_n (pc' := 4) h dX1_workOnServices_3 rfl rfl ?_
      refine gX1_51 (pc' := 7) h dX1_workOnServices_4 rfl hj1.l0 hj1.o rfl ?_
      refine r_icmp_ge (tgt := 58) (pc' := 10) h dX1_workOnServices_7 (by decide) rfl (fun c0 => ?_) (fun c0 => ?_)
      · have ej := lp_ge (c := fN F) (by rw [fWos_I]; exact hw.1) (by have := hw.2; omega) h1 c0
        subst ej
        refine r_return h hm dX1_workOnServices_58 (Nat.le_of_ble_eq_true rfl) (Nat.le_of_ble_eq_true rfl) ?_
        exact hk _ hj1 hr1
      · have hj := lp_lt (c := fN F) (by rw [fWos_I]; exact hw.1) (by have := hw.2; omega) h1 c0
        refine r_aload_n (pc' := 11) h dX1_workOnServices_10 rfl rfl ?_
        refine r_iload_n (pc' := 12) h dX1_workOnServices_11 rfl rfl ?_
        refine r_iconst (pc' := 13) (v := 3) h dX1_workOnServices_12 rfl (by decide) ?_
        refine r_callV2 (pc' := 16) (M := mX1_isInState) h hm dX1_workOnServices_13 rfl lX1_84 vX1_isInState rfl hj1.l0 hj1.o (Nat.le_of_ble_eq_true rfl) (rrb rfl) (kX1_isInState hj1 ?_)
        show AW X G _ _ _ _ _ _ _ _
        refine r_if_eqb (tgt := 52) (pc' := 19) h dX1_workOnServices_16 (by decide) rfl (fun c1 => ?_) (fun c1 => ?_)
        · refine r_iinc (pc' := 55) (v := 1) h dX1_workOnServices_52 rfl (by decide) (by decide) rfl rfl ?_
          refine r_goto (tgt := 2) h dX1_workOnServices_55 (by decide) ?_
          have hz : isF G N Sj b (fWos F (j + 1)) := by simpa [fWos, fWo1, fA_sA, c0, c1] using hj1
          exact aw_cast (by simp [nI_1]) (ih (j + 1) (by omega) (by omega) _ hz hr1)
        · refine r_aload_n (pc' := 20) h dX1_workOnServices_19 rfl rfl ?_
          refine gX1_27 (pc' := 23) h dX1_workOnServices_20 rfl hj1.l0 hj1.o rfl ?_
          refine r_iload_n (pc' := 24) h dX1_workOnServices_23 rfl rfl ?_
          refine r_callSN2 (pc' := 27) (M := mX4_valueAt) h hm dX1_workOnServices_24 rfl lX1_80 vX4_valueAt (Nat.le_of_ble_eq_true rfl) (rrb rfl) (kX4_valueAt hj1.l6 hj1.r6 (by decide) ?_)
          show AW X G _ _ _ _ _ _ _ _
          refine r_iconst (pc' := 28) (v := 1) h dX1_workOnServices_27 rfl (by decide) ?_
          refine r_isub (pc' := 29) h dX1_workOnServices_28 rfl ?_
          refine r_istoren (j := 2) (pc' := 30) h rfl dX1_workOnServices_29 rfl (by decide) rfl ?_
          refine r_aload_n (pc' := 31) h dX1_workOnServices_30 rfl rfl ?_
          refine gX1_27 (pc' := 34) h dX1_workOnServices_31 rfl hj1.l0 hj1.o rfl ?_
          refine r_iload_n (pc' := 35) h dX1_workOnServices_34 rfl rfl ?_
          refine r_iload_n (pc' := 36) h dX1_workOnServices_35 rfl rfl ?_
          refine r_callSN3 (pc' := 39) (M := mX4_setValue) h hm dX1_workOnServices_36 rfl lX1_226 vX4_setValue (Nat.le_of_ble_eq_true rfl) (rrb rfl) (kX4_setValue hj1.l6 hj1.r6 (by decide) ?_)
          show AW X G _ _ _ _ _ _ _ _
          refine wA5 hj1 (fun S1 hF1 hR1 => ?_)
          refine r_iload_n (pc' := 40) h dX1_workOnServices_39 rfl rfl ?_
          refine r_if_ne (tgt := 52) (pc' := 43) h dX1_workOnServices_40 (by decide) rfl (fun c2 => ?_) (fun c2 => ?_)
          · refine r_iinc (pc' := 55) (v := 1) h dX1_workOnServices_52 rfl (by decide) (by decide) rfl rfl ?_
            refine r_goto (tgt := 2) h dX1_workOnServices_55 (by decide) ?_
            refine r_sub (lo' := [(0, _), (1, _)]) [0, 1] rfl ?_
            have hz : isF G N S1 b (fWos F (j + 1)) := by simpa [fWos, fWo1, fA_sA, c0, c1, c2] using hF1
            exact aw_cast (by simp [nI_1]) (ih (j + 1) (by omega) (by omega) _ hz (hr1.trans hR1))
          · refine r_aload_n (pc' := 44) h dX1_workOnServices_43 rfl rfl ?_
            refine gX1_21 (pc' := 47) h dX1_workOnServices_44 rfl hF1.l0 hF1.o rfl ?_
            refine r_iload_n (pc' := 48) h dX1_workOnServices_47 rfl rfl ?_
            refine r_iconst (pc' := 49) (v := 1) h dX1_workOnServices_48 rfl (by decide) ?_
            refine r_callSN3 (pc' := 52) (M := mX4_setValue) h hm dX1_workOnServices_49 rfl lX1_226 vX4_setValue (Nat.le_of_ble_eq_true rfl) (rrb rfl) (kX4_setValue hF1.l4 hF1.r4 (by decide) ?_)
            show AW X G _ _ _ _ _ _ _ _
            refine wA3 hF1 (fun S2 hF2 hR2 => ?_)
            refine r_iinc (pc' := 55) (v := 1) h dX1_workOnServices_52 rfl (by decide) (by decide) rfl rfl ?_
            refine r_goto (tgt := 2) h dX1_workOnServices_55 (by decide) ?_
            refine r_sub (lo' := [(0, _), (1, _)]) [0, 1] rfl ?_
            have hz : isF G N S2 b (fWos F (j + 1)) := by simpa [fWos, fWo1, fA_sA, c0, c1, c2] using hF2
            exact aw_cast (by simp [nI_1]) (ih (j + 1) (by omega) (by omega) _ hz ((hr1.trans hR1).trans hR2))
  exact loop (fN F + 1) 0 (Nat.zero_le _) (by omega) _ hF FR.rfl'
theorem kX1_pass {l : Launch} {G : GX} {N : Nat} {S : Nat → va_E} {K : RK} {b : Nat} {F : FM} (hF : isF G N S b F) (hw : wF F) {k : Nat} (hk0 : k < 2 ^ 31) (hk : ∀ S1, isF G N S1 b (fPas F k) → FR b S S1 → K (.inl (some (.int ((fL (fPas F k) 2 - fL F 2).toInt32)))) S1) : RetK l G N mX1_pass (4, 95, 0, 0) [.ref (ad G b), .int (nI k)] S K := by
  refine ret_enter (by decide +kernel) (Nat.le_of_ble_eq_true rfl) (fun X hX h hm => ?_)
  subst hX
  replace h : OK X G N cX1_pass RX1 5 (4, 95, 0, 0) := h
  replace hm : OKm X G N K (some .int) (4, 95, 0, 0) := hm
  show AW X G 5 N 0 [(0, _), (1, _)] [] S 0 0
  refine r_aload_n (pc' := 1) h dX1_pass_0 rfl rfl ?_
  refine gX1_67 (pc' := 4) h dX1_pass_1 rfl hF.l0 hF.o rfl ?_
  refine r_lstoren (j := 2) (pc' := 5) h rfl dX1_pass_4 rfl (by decide) rfl ?_
  refine r_iconst (pc' := 6) (v := 0) h dX1_pass_5 rfl (by decide) ?_
  refine r_istore (pc' := 8) h dX1_pass_6 rfl (by decide) rfl ?_
  have loop : ∀ (n j : Nat), j ≤ k → k - j < n → ∀ Sj, isF G N Sj b (fPas F j) → FR b S Sj → AW X G 5 N 8 [(0, .ref (ad G b)), (1, .int (nI k)), (2, .long (fL F 2)), (4, .int (nI j))] [] Sj 0 0 := by
    intro n
    induction n with
    | zero => intro j h1 h2; exact absurd h2 (by omega)
    | succ n ih =>
      intro j h1 h2 Sj hj1 hr1
      refine r_iload (pc' := 10) h dX1_pass_8 rfl rfl ?_
      refine r_iload_n (pc' := 11) h dX1_pass_10 rfl rfl ?_
      refine r_icmp_ge (tgt := 50) (pc' := 14) h dX1_pass_11 (by decide) rfl (fun c0 => ?_) (fun c0 => ?_)
      · have ej := lp_ge (c := k) rfl hk0 h1 c0
        subst ej
        refine r_aload_n (pc' := 51) h dX1_pass_50 rfl rfl ?_
        refine gX1_67 (pc' := 54) h dX1_pass_51 rfl hj1.l0 hj1.o rfl ?_
        refine r_lload_n (pc' := 55) h dX1_pass_54 rfl rfl ?_
        refine r_lsub (pc' := 56) h dX1_pass_55 rfl ?_
        refine r_l2i (pc' := 57) h dX1_pass_56 rfl ?_
        refine r_ireturn h hm dX1_pass_57 (Nat.le_of_ble_eq_true rfl) (Nat.le_of_ble_eq_true rfl) ?_
        exact kI (hk _ hj1 hr1) (by first | rfl | contradiction | simp [c0])
      · have hj := lp_lt (c := k) rfl hk0 h1 c0
        refine r_aload_n (pc' := 15) h dX1_pass_14 rfl rfl ?_
        refine r_aload_n (pc' := 16) h dX1_pass_15 rfl rfl ?_
        refine r_aload_n (pc' := 17) h dX1_pass_16 rfl rfl ?_
        refine gX1_39 (pc' := 20) h dX1_pass_17 rfl hj1.l0 hj1.o rfl ?_
        refine r_aload_n (pc' := 21) h dX1_pass_20 rfl rfl ?_
        refine gX1_54 (pc' := 24) h dX1_pass_21 rfl hj1.l0 hj1.o rfl ?_
        refine r_callV2 (pc' := 27) (M := mX1_sumIn) h hm dX1_pass_24 rfl lX1_233 vX1_sumIn rfl hj1.l0 hj1.o (Nat.le_of_ble_eq_true rfl) (rrb rfl) (kX1_sumIn hj1 (hw.of (fPas_I F j 0 (by decide))) ?_)
        show AW X G _ _ _ _ _ _ _ _
        refine r_callV1 (pc' := 30) (M := mX1_account) h hm dX1_pass_27 rfl lX1_242 vX1_account rfl hj1.l0 hj1.o (Nat.le_of_ble_eq_true rfl) (rrb rfl) (kX1_account hj1 (fun S1 hF1 hR1 => ?_))
        show AW X G _ _ _ _ _ _ _ _
        refine r_aload_n (pc' := 31) h dX1_pass_30 rfl rfl ?_
        refine r_callV0 (pc' := 34) (M := mX1_workOnServices) h hm dX1_pass_31 rfl lX1_246 vX1_workOnServices rfl hF1.l0 hF1.o (Nat.le_of_ble_eq_true rfl) (rrb rfl) (kX1_workOnServices hF1 (hw.of (fPas_I F j 0 (by decide))) (fun S2 hF2 hR2 => ?_))
        show AW X G _ _ _ _ _ _ _ _
        refine r_aload_n (pc' := 35) h dX1_pass_34 rfl rfl ?_
        refine r_dup (pc' := 36) h dX1_pass_35 rfl rfl ?_
        refine gX1_57 (pc' := 39) h dX1_pass_36 rfl hF2.l0 hF2.o rfl ?_
        refine r_iconst (pc' := 40) (v := 1) h dX1_pass_39 rfl (by decide) ?_
        refine r_iadd (pc' := 41) h dX1_pass_40 rfl ?_
        refine pX1_57 (pc' := 44) h dX1_pass_41 rfl hF2.l0 hF2.o (Nat.le_of_ble_eq_true rfl) ?_
        refine wI4 hF2 (fun S3 hF3 hR3 => ?_)
        refine r_iinc (pc' := 47) (v := 1) h dX1_pass_44 rfl (by decide) (by decide) rfl rfl ?_
        refine r_goto (tgt := 8) h dX1_pass_47 (by decide) ?_
        have hz : isF G N S3 b (fPas F (j + 1)) := by rw [fHr_eq] at hF3; exact hF3
        exact aw_cast (by simp [nI_1]) (ih (j + 1) (by omega) (by omega) _ hz (((hr1.trans hR1).trans hR2).trans hR3))
  refine r_sub (lo' := [(0, _), (1, _), (2, _), (4, _)]) [1, 2, 0, 3] rfl ?_
  exact loop (k + 1) 0 (Nat.zero_le _) (by omega) _ hF FR.rfl'
theorem kX1_limitToGrid {l : Launch} {G : GX} {N : Nat} {S : Nat → va_E} {K : RK} {b : Nat} {F : FM} (hF : isF G N S b F) (hw : wF F) (hk : ∀ S1, isF G N S1 b ((dRun (fN F) F 0).1) → FR b S S1 → K (.inl (some (.int ((dRun (fN F) F 0).2)))) S1) : RetK l G N mX1_limitToGrid (4, 95, 0, 0) [.ref (ad G b)] S K := by
  refine ret_enter (by decide +kernel) (Nat.le_of_ble_eq_true rfl) (fun X hX h hm => ?_)
  subst hX
  replace h : OK X G N cX1_limitToGrid RX1 6 (4, 95, 0, 0) := h
  replace hm : OKm X G N K (some .int) (4, 95, 0, 0) := hm
  show AW X G 6 N 0 [(0, _)] [] S 0 0
  refine r_iconst (pc' := 1) (v := 0) h dX1_limitToGrid_0 rfl (by decide) ?_
  refine r_istoren (j := 1) (pc' := 2) h rfl dX1_limitToGrid_1 rfl (by decide) rfl ?_
  refine r_iconst (pc' := 3) (v := 0) h dX1_limitToGrid_2 rfl (by decide) ?_
  refine r_istoren (j := 2) (pc' := 4) h rfl dX1_limitToGrid_3 rfl (by decide) rfl ?_
  have loop : ∀ (n j : Nat), j ≤ fN F → fN F - j < n → ∀ (Sj : Nat → va_E) (F1 : FM) (c : Int32), isF G N Sj b F1 → FR b S Sj → (∀ k, fI F1 k = fI F k) → dRun (fN F - j) F1 c = dRun (fN F) F 0 → AW X G 6 N 4 [(0, .ref (ad G b)), (1, .int c), (2, .int (nI j))] [] Sj 0 0 := by
    intro n
    induction n with
    | zero => intro j h1 h2; exact absurd h2 (by omega)
    | succ n ih =>
      intro j h1 h2 Sj F1 c hj1 hr1 hi hv
      have hw1 : wF F1 := hw.of (hi 0)
      have hn1 : fN F1 = fN F := fN.of (hi 0)
      refine r_iload_n (pc' := 5) h dX1_limitToGrid_4 rfl rfl ?_
      refine r_aload_n (pc' := 6) h dX1_limitToGrid_5 rfl rfl ?_
      refine gX1_51 (pc' := 9) h dX1_limitToGrid_6 rfl hj1.l0 hj1.o rfl ?_
      refine r_icmp_ge (tgt := 84) (pc' := 12) h dX1_limitToGrid_9 (by decide) rfl (fun c0 => ?_) (fun c0 => ?_)
      · have ej := lp_ge (c := fN F) (by rw [hi]; exact hw.1) (by have := hw.2; omega) h1 c0
        subst ej
        refine r_iload_n (pc' := 85) h dX1_limitToGrid_84 rfl rfl ?_
        refine r_ireturn h hm dX1_limitToGrid_85 (Nat.le_of_ble_eq_true rfl) (Nat.le_of_ble_eq_true rfl) ?_
        have e := hv
        rw [Nat.sub_self] at e
        simp only [dRun] at e
        rw [← e] at hk
        exact hk _ hj1 hr1
      · have hj := lp_lt (c := fN F) (by rw [hi]; exact hw.1) (by have := hw.2; omega) h1 c0
        refine r_aload_n (pc' := 13) h dX1_limitToGrid_12 rfl rfl ?_
        refine r_aload_n (pc' := 14) h dX1_limitToGrid_13 rfl rfl ?_
        refine gX1_39 (pc' := 17) h dX1_limitToGrid_14 rfl hj1.l0 hj1.o rfl ?_
        refine r_aload_n (pc' := 18) h dX1_limitToGrid_17 rfl rfl ?_
        refine gX1_54 (pc' := 21) h dX1_limitToGrid_18 rfl hj1.l0 hj1.o rfl ?_
        refine r_callV2 (pc' := 24) (M := mX1_sumIn) h hm dX1_limitToGrid_21 rfl lX1_233 vX1_sumIn rfl hj1.l0 hj1.o (Nat.le_of_ble_eq_true rfl) (rrb rfl) (kX1_sumIn hj1 hw1 ?_)
        show AW X G _ _ _ _ _ _ _ _
        refine r_aload_n (pc' := 25) h dX1_limitToGrid_24 rfl rfl ?_
        refine gX1_43 (pc' := 28) h dX1_limitToGrid_25 rfl hj1.l0 hj1.o rfl ?_
        refine r_isub (pc' := 29) h dX1_limitToGrid_28 rfl ?_
        refine r_istoren (j := 3) (pc' := 30) h rfl dX1_limitToGrid_29 rfl (by decide) rfl ?_
        refine r_iload_n (pc' := 31) h dX1_limitToGrid_30 rfl rfl ?_
        refine r_if_gt (tgt := 36) (pc' := 34) h dX1_limitToGrid_31 (by decide) rfl (fun c1 => ?_) (fun c1 => ?_)
        · refine r_aload_n (pc' := 37) h dX1_limitToGrid_36 rfl rfl ?_
          refine r_callV0 (pc' := 40) (M := mX1_turbineWithMostOutput) h hm dX1_limitToGrid_37 rfl lX1_236 vX1_turbineWithMostOutput rfl hj1.l0 hj1.o (Nat.le_of_ble_eq_true rfl) (rrb rfl) (kX1_turbineWithMostOutput hj1 hw1 ?_)
          show AW X G _ _ _ _ _ _ _ _
          refine r_istore (pc' := 42) h dX1_limitToGrid_40 rfl (by decide) rfl ?_
          refine r_aload_n (pc' := 43) h dX1_limitToGrid_42 rfl rfl ?_
          refine r_iload (pc' := 45) h dX1_limitToGrid_43 rfl rfl ?_
          refine r_aload_n (pc' := 46) h dX1_limitToGrid_45 rfl rfl ?_
          refine gX1_39 (pc' := 49) h dX1_limitToGrid_46 rfl hj1.l0 hj1.o rfl ?_
          refine r_aload_n (pc' := 50) h dX1_limitToGrid_49 rfl rfl ?_
          refine gX1_54 (pc' := 53) h dX1_limitToGrid_50 rfl hj1.l0 hj1.o rfl ?_
          refine r_callV3 (pc' := 56) (M := mX1_outputIn) h hm dX1_limitToGrid_53 rfl lX1_123 vX1_outputIn rfl hj1.l0 hj1.o (Nat.le_of_ble_eq_true rfl) (rrb rfl) (kX1_outputIn hj1 ?_)
          show AW X G _ _ _ _ _ _ _ _
          refine r_iload_n (pc' := 57) h dX1_limitToGrid_56 rfl rfl ?_
          refine r_isub (pc' := 58) h dX1_limitToGrid_57 rfl ?_
          refine r_istore (pc' := 60) h dX1_limitToGrid_58 rfl (by decide) rfl ?_
          refine r_aload_n (pc' := 61) h dX1_limitToGrid_60 rfl rfl ?_
          refine gX1_24 (pc' := 64) h dX1_limitToGrid_61 rfl hj1.l0 hj1.o rfl ?_
          refine r_iload (pc' := 66) h dX1_limitToGrid_64 rfl rfl ?_
          refine r_iload (pc' := 68) h dX1_limitToGrid_66 rfl rfl ?_
          refine r_iconst (pc' := 69) (v := 0) h dX1_limitToGrid_68 rfl (by decide) ?_
          refine r_max (pc' := 72) (own := RX1) h dX1_limitToGrid_69 rfl lX1_239 (rrm rfl) ?_
          refine r_callSN3 (pc' := 75) (M := mX4_setValue) h hm dX1_limitToGrid_72 rfl lX1_226 vX4_setValue (Nat.le_of_ble_eq_true rfl) (rrb rfl) (kX4_setValue hj1.l5 hj1.r5 (by decide) ?_)
          show AW X G _ _ _ _ _ _ _ _
          refine wA4 hj1 (fun S1 hF1 hR1 => ?_)
          have hF1 : isF G N S1 b (fDst F1) := hF1
          refine r_iinc (pc' := 78) (v := 1) h dX1_limitToGrid_75 rfl (by decide) (by decide) rfl rfl ?_
          refine r_iinc (pc' := 81) (v := 1) h dX1_limitToGrid_78 rfl (by decide) (by decide) rfl rfl ?_
          refine r_goto (tgt := 4) h dX1_limitToGrid_81 (by decide) ?_
          refine r_sub (lo' := [(0, _), (1, _), (2, _)]) [0, 1, 2] rfl ?_
          refine aw_cast (by simp [nI_1]; done) (ih (j + 1) (by omega) (by omega) _ (fDst F1) (c + 1) hF1 (hr1.trans hR1) hi ?_)
          rw [← hv, show fN F - j = (fN F - (j + 1)) + 1 by omega]
          have c9 : 0 < exc F1 := c1
          simp [dRun, c9]
        · refine r_iload_n (pc' := 35) h dX1_limitToGrid_34 rfl rfl ?_
          refine r_ireturn h hm dX1_limitToGrid_35 (Nat.le_of_ble_eq_true rfl) (Nat.le_of_ble_eq_true rfl) ?_
          have e := hv
          rw [show fN F - j = (fN F - (j + 1)) + 1 by omega] at e
          have c9 : ¬ 0 < exc F1 := c1
          simp only [dRun, c9, if_false] at e
          rw [← e] at hk
          exact hk _ hj1 hr1
  exact loop (fN F + 1) 0 (Nat.zero_le _) (by omega) _ F 0 hF FR.rfl' (fun _ => rfl) rfl
theorem kX1_copyRow {l : Launch} {G : GX} {N : Nat} {S : Nat → va_E} {K : RK} {k1 k2 n : Nat} {f g : Nat → Int32} (hk1 : k1 < N) (hk2 : k2 < N) (hc1 : S k1 = arI G n f) (hc2 : S k2 = arI G n g) (hne : k1 ≠ k2) (hn : n < 2 ^ 31) (hk : K (.inl none) (va_up S k2 (arI G n (cpR n f g)))) : RetK l G N mX1_copyRow (0, 0, 0, 0) [.ref (ad G k1), .ref (ad G k2)] S K := by
  refine ret_enter (by decide +kernel) (Nat.le_of_ble_eq_true rfl) (fun X hX h hm => ?_)
  subst hX
  replace h : OK X G N cX1_copyRow RX1 3 (0, 0, 0, 0) := h
  replace hm : OKm X G N K none (0, 0, 0, 0) := hm
  show AW X G 3 N 0 [(0, _), (1, _)] [] S 0 0
  refine r_iconst (pc' := 1) (v := 0) h dX1_copyRow_0 rfl (by decide) ?_
  refine r_istoren (j := 2) (pc' := 2) h rfl dX1_copyRow_1 rfl (by decide) rfl ?_
  have loop : ∀ (m j : Nat), j ≤ n → n - j < m → AW X G 3 N 2 [(0, .ref (ad G k1)), (1, .ref (ad G k2)), (2, .int (nI j))] [] (va_up S k2 (arI G n (fun i => if i < j then f i else g i))) 0 0 := by
    intro m
    induction m with
    | zero => intro j h1 h2; exact absurd h2 (by omega)
    | succ m ih =>
      intro j h1 h2
      have hd1 : (va_up S k2 (arI G n (fun i => if i < j then f i else g i))) k1 = arI G n f := by unfold va_up; rw [if_neg hne]; exact hc1
      have hd2 : (va_up S k2 (arI G n (fun i => if i < j then f i else g i))) k2 = arI G n (fun i => if i < j then f i else g i) := by unfold va_up; rw [if_pos rfl]
      refine r_iload_n (pc' := 3) h dX1_copyRow_2 rfl rfl ?_
      refine r_aload_n (pc' := 4) h dX1_copyRow_3 rfl rfl ?_
      refine r_alen (pc' := 5) (t := 0) h dX1_copyRow_4 rfl hk1 hd1 rfl ?_
      refine r_icmp_ge (tgt := 26) (pc' := 8) h dX1_copyRow_5 (by decide) rfl (fun c0 => ?_) (fun c0 => ?_)
      · have ej := lp_ge (c := n) rfl hn h1 c0
        subst ej
        refine r_return h hm dX1_copyRow_26 (Nat.le_of_ble_eq_true rfl) (Nat.le_of_ble_eq_true rfl) ?_
        exact hk
      · have hj := lp_lt (c := n) rfl hn h1 c0
        refine r_iload_n (pc' := 9) h dX1_copyRow_8 rfl rfl ?_
        refine r_aload_n (pc' := 10) h dX1_copyRow_9 rfl rfl ?_
        refine r_alen (pc' := 11) (t := 0) h dX1_copyRow_10 rfl hk2 hd2 rfl ?_
        refine r_icmp_ge (tgt := 26) (pc' := 14) h dX1_copyRow_11 (by decide) rfl (fun c1 => ?_) (fun c1 => ?_)
        · refine r_return h hm dX1_copyRow_26 (Nat.le_of_ble_eq_true rfl) (Nat.le_of_ble_eq_true rfl) ?_
          exact absurd c1 (nI_ge hj hn)
        · refine r_aload_n (pc' := 15) h dX1_copyRow_14 rfl rfl ?_
          refine r_iload_n (pc' := 16) h dX1_copyRow_15 rfl rfl ?_
          refine r_aload_n (pc' := 17) h dX1_copyRow_16 rfl rfl ?_
          refine r_iload_n (pc' := 18) h dX1_copyRow_17 rfl rfl ?_
          refine r_iald (pc' := 19) h dX1_copyRow_18 rfl hk1 hd1 (vp_in_nI hj hn) ?_
          refine r_iast (pc' := 20) h dX1_copyRow_19 rfl hk2 hd2 (vp_in_nI hj hn) ?_
          refine r_iinc (pc' := 23) (v := 1) h dX1_copyRow_20 rfl (by decide) (by decide) rfl rfl ?_
          refine r_goto (tgt := 2) h dX1_copyRow_23 (by decide) ?_
          refine r_world (S' := va_up S k2 (arI G n (fun i => if i < j + 1 then f i else g i))) (fun i _ => ?_) ?_
          · unfold va_up
            split
            · unfold arI; congr 4; funext i9; unfold upd; rw [nI_clamp (by omega)]; by_cases e9 : i9 = j
              · subst e9; simp
              · simp only [e9, if_false]; by_cases e8 : i9 < j
                · rw [if_pos e8, if_pos (by omega)]
                · rw [if_neg e8, if_neg (by omega)]
            · rfl
          exact aw_cast (by simp [nI_1]) (ih (j + 1) (by omega) (by omega))
  refine r_world (fun i _ => ?_) (loop (n + 1) 0 (Nat.zero_le _) (by omega))
  unfold va_up; split
  · next q => rw [q, hc2]; simp
  · rfl
theorem kX1_copyFrom {l : Launch} {G : GX} {N : Nat} {S : Nat → va_E} {K : RK} {b : Nat} {F : FM} (hF : isF G N S b F) {b2 : Nat} {F2 : FM} (hO : isF G N S b2 F2) (hap : b2 + 9 < b ∨ b + 9 < b2) (hn1 : nF F) (hn2 : nF F2) (hch : isCh (fI F2 1)) (hk : ∀ S1, isF G N S1 b F2 → FR b S S1 → K (.inl none) S1) : RetK l G N mX1_copyFrom (1, 22, 0, 0) [.ref (ad G b), .ref (ad G b2)] S K := by
  refine ret_enter (by decide +kernel) (Nat.le_of_ble_eq_true rfl) (fun X hX h hm => ?_)
  subst hX
  replace h : OK X G N cX1_copyFrom RX1 2 (1, 22, 0, 0) := h
  replace hm : OKm X G N K none (1, 22, 0, 0) := hm
  show AW X G 2 N 0 [(0, _), (1, _)] [] S 0 0
  refine r_aload_n (pc' := 1) h dX1_copyFrom_0 rfl rfl ?_
  refine gX1_11 (pc' := 4) h dX1_copyFrom_1 rfl hO.l0 hO.o rfl ?_
  refine r_aload_n (pc' := 5) h dX1_copyFrom_4 rfl rfl ?_
  refine gX1_11 (pc' := 8) h dX1_copyFrom_5 rfl hF.l0 hF.o rfl ?_
  refine r_callS2 (pc' := 11) (M := mX1_copyRow) h hm dX1_copyFrom_8 rfl lX1_47 vX1_copyRow (Nat.le_of_ble_eq_true rfl) (rrb rfl) (kX1_copyRow hO.l1 hF.l1 hO.r1 hF.r1 (by omega) (by decide) ?_)
  show AW X G _ _ _ _ _ _ _ _
  refine wA0 hF (fun S1 hF1 hR1 => ?_)
  have hO1 := hO.fr hR1 hap
  refine r_aload_n (pc' := 12) h dX1_copyFrom_11 rfl rfl ?_
  refine gX1_15 (pc' := 15) h dX1_copyFrom_12 rfl hO1.l0 hO1.o rfl ?_
  refine r_aload_n (pc' := 16) h dX1_copyFrom_15 rfl rfl ?_
  refine gX1_15 (pc' := 19) h dX1_copyFrom_16 rfl hF1.l0 hF1.o rfl ?_
  refine r_callS2 (pc' := 22) (M := mX1_copyRow) h hm dX1_copyFrom_19 rfl lX1_47 vX1_copyRow (Nat.le_of_ble_eq_true rfl) (rrb rfl) (kX1_copyRow hO1.l2 hF1.l2 hO1.r2 hF1.r2 (by omega) (by decide) ?_)
  show AW X G _ _ _ _ _ _ _ _
  refine wA1 hF1 (fun S2 hF2 hR2 => ?_)
  have hO2 := hO1.fr hR2 hap
  refine r_aload_n (pc' := 23) h dX1_copyFrom_22 rfl rfl ?_
  refine gX1_18 (pc' := 26) h dX1_copyFrom_23 rfl hO2.l0 hO2.o rfl ?_
  refine r_aload_n (pc' := 27) h dX1_copyFrom_26 rfl rfl ?_
  refine gX1_18 (pc' := 30) h dX1_copyFrom_27 rfl hF2.l0 hF2.o rfl ?_
  refine r_callS2 (pc' := 33) (M := mX1_copyRow) h hm dX1_copyFrom_30 rfl lX1_47 vX1_copyRow (Nat.le_of_ble_eq_true rfl) (rrb rfl) (kX1_copyRow hO2.l3 hF2.l3 hO2.r3 hF2.r3 (by omega) (by decide) ?_)
  show AW X G _ _ _ _ _ _ _ _
  refine wA2 hF2 (fun S3 hF3 hR3 => ?_)
  have hO3 := hO2.fr hR3 hap
  refine r_aload_n (pc' := 34) h dX1_copyFrom_33 rfl rfl ?_
  refine gX1_21 (pc' := 37) h dX1_copyFrom_34 rfl hO3.l0 hO3.o rfl ?_
  refine r_aload_n (pc' := 38) h dX1_copyFrom_37 rfl rfl ?_
  refine gX1_21 (pc' := 41) h dX1_copyFrom_38 rfl hF3.l0 hF3.o rfl ?_
  refine r_callS2 (pc' := 44) (M := mX1_copyRow) h hm dX1_copyFrom_41 rfl lX1_47 vX1_copyRow (Nat.le_of_ble_eq_true rfl) (rrb rfl) (kX1_copyRow hO3.l4 hF3.l4 hO3.r4 hF3.r4 (by omega) (by decide) ?_)
  show AW X G _ _ _ _ _ _ _ _
  refine wA3 hF3 (fun S4 hF4 hR4 => ?_)
  have hO4 := hO3.fr hR4 hap
  refine r_aload_n (pc' := 45) h dX1_copyFrom_44 rfl rfl ?_
  refine gX1_24 (pc' := 48) h dX1_copyFrom_45 rfl hO4.l0 hO4.o rfl ?_
  refine r_aload_n (pc' := 49) h dX1_copyFrom_48 rfl rfl ?_
  refine gX1_24 (pc' := 52) h dX1_copyFrom_49 rfl hF4.l0 hF4.o rfl ?_
  refine r_callS2 (pc' := 55) (M := mX1_copyRow) h hm dX1_copyFrom_52 rfl lX1_47 vX1_copyRow (Nat.le_of_ble_eq_true rfl) (rrb rfl) (kX1_copyRow hO4.l5 hF4.l5 hO4.r5 hF4.r5 (by omega) (by decide) ?_)
  show AW X G _ _ _ _ _ _ _ _
  refine wA4 hF4 (fun S5 hF5 hR5 => ?_)
  have hO5 := hO4.fr hR5 hap
  refine r_aload_n (pc' := 56) h dX1_copyFrom_55 rfl rfl ?_
  refine gX1_27 (pc' := 59) h dX1_copyFrom_56 rfl hO5.l0 hO5.o rfl ?_
  refine r_aload_n (pc' := 60) h dX1_copyFrom_59 rfl rfl ?_
  refine gX1_27 (pc' := 63) h dX1_copyFrom_60 rfl hF5.l0 hF5.o rfl ?_
  refine r_callS2 (pc' := 66) (M := mX1_copyRow) h hm dX1_copyFrom_63 rfl lX1_47 vX1_copyRow (Nat.le_of_ble_eq_true rfl) (rrb rfl) (kX1_copyRow hO5.l6 hF5.l6 hO5.r6 hF5.r6 (by omega) (by decide) ?_)
  show AW X G _ _ _ _ _ _ _ _
  refine wA5 hF5 (fun S6 hF6 hR6 => ?_)
  have hO6 := hO5.fr hR6 hap
  refine r_aload_n (pc' := 67) h dX1_copyFrom_66 rfl rfl ?_
  refine gX1_30 (pc' := 70) h dX1_copyFrom_67 rfl hO6.l0 hO6.o rfl ?_
  refine r_aload_n (pc' := 71) h dX1_copyFrom_70 rfl rfl ?_
  refine gX1_30 (pc' := 74) h dX1_copyFrom_71 rfl hF6.l0 hF6.o rfl ?_
  refine r_callS2 (pc' := 77) (M := mX1_copyRow) h hm dX1_copyFrom_74 rfl lX1_47 vX1_copyRow (Nat.le_of_ble_eq_true rfl) (rrb rfl) (kX1_copyRow hO6.l7 hF6.l7 hO6.r7 hF6.r7 (by omega) (by decide) ?_)
  show AW X G _ _ _ _ _ _ _ _
  refine wA6 hF6 (fun S7 hF7 hR7 => ?_)
  have hO7 := hO6.fr hR7 hap
  refine r_aload_n (pc' := 78) h dX1_copyFrom_77 rfl rfl ?_
  refine gX1_33 (pc' := 81) h dX1_copyFrom_78 rfl hO7.l0 hO7.o rfl ?_
  refine r_aload_n (pc' := 82) h dX1_copyFrom_81 rfl rfl ?_
  refine gX1_33 (pc' := 85) h dX1_copyFrom_82 rfl hF7.l0 hF7.o rfl ?_
  refine r_callS2 (pc' := 88) (M := mX1_copyRow) h hm dX1_copyFrom_85 rfl lX1_47 vX1_copyRow (Nat.le_of_ble_eq_true rfl) (rrb rfl) (kX1_copyRow hO7.l8 hF7.l8 hO7.r8 hF7.r8 (by omega) (by decide) ?_)
  show AW X G _ _ _ _ _ _ _ _
  refine wA7 hF7 (fun S8 hF8 hR8 => ?_)
  have hO8 := hO7.fr hR8 hap
  refine r_aload_n (pc' := 89) h dX1_copyFrom_88 rfl rfl ?_
  refine gX1_36 (pc' := 92) h dX1_copyFrom_89 rfl hO8.l0 hO8.o rfl ?_
  refine r_aload_n (pc' := 93) h dX1_copyFrom_92 rfl rfl ?_
  refine gX1_36 (pc' := 96) h dX1_copyFrom_93 rfl hF8.l0 hF8.o rfl ?_
  refine r_callS2 (pc' := 99) (M := mX1_copyRow) h hm dX1_copyFrom_96 rfl lX1_47 vX1_copyRow (Nat.le_of_ble_eq_true rfl) (rrb rfl) (kX1_copyRow hO8.l9 hF8.l9 hO8.r9 hF8.r9 (by omega) (by decide) ?_)
  show AW X G _ _ _ _ _ _ _ _
  refine wA8 hF8 (fun S9 hF9 hR9 => ?_)
  have hO9 := hO8.fr hR9 hap
  refine r_aload_n (pc' := 100) h dX1_copyFrom_99 rfl rfl ?_
  refine r_aload_n (pc' := 101) h dX1_copyFrom_100 rfl rfl ?_
  refine gX1_51 (pc' := 104) h dX1_copyFrom_101 rfl hO9.l0 hO9.o rfl ?_
  refine pX1_51 (pc' := 107) h dX1_copyFrom_104 rfl hF9.l0 hF9.o (Nat.le_of_ble_eq_true rfl) ?_
  refine wI0 hF9 (fun S10 hF10 hR10 => ?_)
  have hO10 := hO9.fr hR10 hap
  refine r_aload_n (pc' := 108) h dX1_copyFrom_107 rfl rfl ?_
  refine r_aload_n (pc' := 109) h dX1_copyFrom_108 rfl rfl ?_
  refine gX1_39 (pc' := 112) h dX1_copyFrom_109 rfl hO10.l0 hO10.o rfl ?_
  refine pX1_39 (pc' := 115) h dX1_copyFrom_112 rfl hF10.l0 hF10.o (Nat.le_of_ble_eq_true rfl) hch.1 hch.2 ?_
  refine wI1 hF10 (fun S11 hF11 hR11 => ?_)
  have hO11 := hO10.fr hR11 hap
  refine r_aload_n (pc' := 116) h dX1_copyFrom_115 rfl rfl ?_
  refine r_aload_n (pc' := 117) h dX1_copyFrom_116 rfl rfl ?_
  refine gX1_54 (pc' := 120) h dX1_copyFrom_117 rfl hO11.l0 hO11.o rfl ?_
  refine pX1_54 (pc' := 123) h dX1_copyFrom_120 rfl hF11.l0 hF11.o (Nat.le_of_ble_eq_true rfl) ?_
  refine wI2 hF11 (fun S12 hF12 hR12 => ?_)
  have hO12 := hO11.fr hR12 hap
  refine r_aload_n (pc' := 124) h dX1_copyFrom_123 rfl rfl ?_
  refine r_aload_n (pc' := 125) h dX1_copyFrom_124 rfl rfl ?_
  refine gX1_43 (pc' := 128) h dX1_copyFrom_125 rfl hO12.l0 hO12.o rfl ?_
  refine pX1_43 (pc' := 131) h dX1_copyFrom_128 rfl hF12.l0 hF12.o (Nat.le_of_ble_eq_true rfl) ?_
  refine wI3 hF12 (fun S13 hF13 hR13 => ?_)
  have hO13 := hO12.fr hR13 hap
  refine r_aload_n (pc' := 132) h dX1_copyFrom_131 rfl rfl ?_
  refine r_aload_n (pc' := 133) h dX1_copyFrom_132 rfl rfl ?_
  refine gX1_57 (pc' := 136) h dX1_copyFrom_133 rfl hO13.l0 hO13.o rfl ?_
  refine pX1_57 (pc' := 139) h dX1_copyFrom_136 rfl hF13.l0 hF13.o (Nat.le_of_ble_eq_true rfl) ?_
  refine wI4 hF13 (fun S14 hF14 hR14 => ?_)
  have hO14 := hO13.fr hR14 hap
  refine r_aload_n (pc' := 140) h dX1_copyFrom_139 rfl rfl ?_
  refine r_aload_n (pc' := 141) h dX1_copyFrom_140 rfl rfl ?_
  refine gX1_60 (pc' := 144) h dX1_copyFrom_141 rfl hO14.l0 hO14.o rfl ?_
  refine pX1_60 (pc' := 147) h dX1_copyFrom_144 rfl hF14.l0 hF14.o (Nat.le_of_ble_eq_true rfl) ?_
  refine wL0 hF14 (fun S15 hF15 hR15 => ?_)
  have hO15 := hO14.fr hR15 hap
  refine r_aload_n (pc' := 148) h dX1_copyFrom_147 rfl rfl ?_
  refine r_aload_n (pc' := 149) h dX1_copyFrom_148 rfl rfl ?_
  refine gX1_64 (pc' := 152) h dX1_copyFrom_149 rfl hO15.l0 hO15.o rfl ?_
  refine pX1_64 (pc' := 155) h dX1_copyFrom_152 rfl hF15.l0 hF15.o (Nat.le_of_ble_eq_true rfl) ?_
  refine wL1 hF15 (fun S16 hF16 hR16 => ?_)
  have hO16 := hO15.fr hR16 hap
  refine r_aload_n (pc' := 156) h dX1_copyFrom_155 rfl rfl ?_
  refine r_aload_n (pc' := 157) h dX1_copyFrom_156 rfl rfl ?_
  refine gX1_67 (pc' := 160) h dX1_copyFrom_157 rfl hO16.l0 hO16.o rfl ?_
  refine pX1_67 (pc' := 163) h dX1_copyFrom_160 rfl hF16.l0 hF16.o (Nat.le_of_ble_eq_true rfl) ?_
  refine wL2 hF16 (fun S17 hF17 hR17 => ?_)
  have hO17 := hO16.fr hR17 hap
  refine r_aload_n (pc' := 164) h dX1_copyFrom_163 rfl rfl ?_
  refine r_aload_n (pc' := 165) h dX1_copyFrom_164 rfl rfl ?_
  refine gX1_70 (pc' := 168) h dX1_copyFrom_165 rfl hO17.l0 hO17.o rfl ?_
  refine pX1_70 (pc' := 171) h dX1_copyFrom_168 rfl hF17.l0 hF17.o (Nat.le_of_ble_eq_true rfl) ?_
  refine wL3 hF17 (fun S18 hF18 hR18 => ?_)
  have hO18 := hO17.fr hR18 hap
  refine r_aload_n (pc' := 172) h dX1_copyFrom_171 rfl rfl ?_
  refine r_aload_n (pc' := 173) h dX1_copyFrom_172 rfl rfl ?_
  refine gX1_73 (pc' := 176) h dX1_copyFrom_173 rfl hO18.l0 hO18.o rfl ?_
  refine pX1_73 (pc' := 179) h dX1_copyFrom_176 rfl hF18.l0 hF18.o (Nat.le_of_ble_eq_true rfl) ?_
  refine wL4 hF18 (fun S19 hF19 hR19 => ?_)
  have hO19 := hO18.fr hR19 hap
  refine r_return h hm dX1_copyFrom_179 (Nat.le_of_ble_eq_true rfl) (Nat.le_of_ble_eq_true rfl) ?_
  have e := hF19
  refine hk _ (e.eqv (F2 := F2) ?_ ?_ ?_) ((((((((((((((((((hR1.trans hR2).trans hR3).trans hR4).trans hR5).trans hR6).trans hR7).trans hR8).trans hR9).trans hR10).trans hR11).trans hR12).trans hR13).trans hR14).trans hR15).trans hR16).trans hR17).trans hR18).trans hR19)
  · intro j hj
    have hy : ∀ j, j < 9 → cpR (lenF j) (fA F2 j) (fA F j) = fA F2 j := fun j hj => cpR_eq (hn2 j hj) (hn1 j hj)
    rcases (by omega : j = 0 ∨ j = 1 ∨ j = 2 ∨ j = 3 ∨ j = 4 ∨ j = 5 ∨ j = 6 ∨ j = 7 ∨ j = 8) with rfl | rfl | rfl | rfl | rfl | rfl | rfl | rfl | rfl
    · exact hy 0 (by decide)
    · exact hy 1 (by decide)
    · exact hy 2 (by decide)
    · exact hy 3 (by decide)
    · exact hy 4 (by decide)
    · exact hy 5 (by decide)
    · exact hy 6 (by decide)
    · exact hy 7 (by decide)
    · exact hy 8 (by decide)
  · intro j hj
    rcases (by omega : j = 0 ∨ j = 1 ∨ j = 2 ∨ j = 3 ∨ j = 4) with rfl | rfl | rfl | rfl | rfl <;> rfl
  · intro j hj
    rcases (by omega : j = 0 ∨ j = 1 ∨ j = 2 ∨ j = 3 ∨ j = 4) with rfl | rfl | rfl | rfl | rfl <;> rfl
