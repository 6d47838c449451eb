/-! THE WALKS: the farm's lines, orders, judgements, changes. -/
theorem kX1_blowsAlongColumns {l : Launch} {G : GX} {N : Nat} {S : Nat → va_E} {K : RK} {b : Nat} {F : FM} (hF : isF G N S b F) (hk : K (.inl (some (.int (b2i (blo F))))) S) : RetK l G N mX1_blowsAlongColumns (0, 0, 0, 0) [.ref (ad G b)] S K := by
  refine ret_enter (by decide +kernel) (Nat.le_of_ble_eq_true rfl) (fun X hX h hm => ?_)
  subst hX
  replace h : OK X G N cX1_blowsAlongColumns RX1 1 (0, 0, 0, 0) := h
  replace hm : OKm X G N K (some .boolean) (0, 0, 0, 0) := hm
  show AW X G 1 N 0 [(0, _)] [] S 0 0
  refine r_aload_n (pc' := 1) h dX1_blowsAlongColumns_0 rfl rfl ?_
  refine gX1_39 (pc' := 4) h dX1_blowsAlongColumns_1 rfl hF.l0 hF.o rfl ?_
  refine r_bipush (pc' := 6) (v := 78) h dX1_blowsAlongColumns_4 rfl (by decide) ?_
  refine r_icmp_eq (tgt := 18) (pc' := 9) h dX1_blowsAlongColumns_6 (by decide) rfl (fun c0 => ?_) (fun c0 => ?_)
  · refine r_iconst (pc' := 19) (v := 1) h dX1_blowsAlongColumns_18 rfl (by decide) ?_
    refine r_goto (tgt := 23) h dX1_blowsAlongColumns_19 (by decide) ?_
    refine r_zreturn h hm dX1_blowsAlongColumns_23 (Nat.le_of_ble_eq_true rfl) (Nat.le_of_ble_eq_true rfl) (by first | rfl | exact nar_b _) ?_
    exact kI hk (by first | rfl | contradiction | simp [blo, b2i, c0])
  · refine r_aload_n (pc' := 10) h dX1_blowsAlongColumns_9 rfl rfl ?_
    refine gX1_39 (pc' := 13) h dX1_blowsAlongColumns_10 rfl hF.l0 hF.o rfl ?_
    refine r_bipush (pc' := 15) (v := 83) h dX1_blowsAlongColumns_13 rfl (by decide) ?_
    refine r_icmp_ne (tgt := 22) (pc' := 18) h dX1_blowsAlongColumns_15 (by decide) rfl (fun c1 => ?_) (fun c1 => ?_)
    · refine r_iconst (pc' := 23) (v := 0) h dX1_blowsAlongColumns_22 rfl (by decide) ?_
      refine r_zreturn h hm dX1_blowsAlongColumns_23 (Nat.le_of_ble_eq_true rfl) (Nat.le_of_ble_eq_true rfl) (by first | rfl | exact nar_b _) ?_
      exact kI hk (by first | rfl | contradiction | simp [blo, b2i, c0, c1])
    · refine r_iconst (pc' := 19) (v := 1) h dX1_blowsAlongColumns_18 rfl (by decide) ?_
      refine r_goto (tgt := 23) h dX1_blowsAlongColumns_19 (by decide) ?_
      refine r_zreturn h hm dX1_blowsAlongColumns_23 (Nat.le_of_ble_eq_true rfl) (Nat.le_of_ble_eq_true rfl) (by first | rfl | exact nar_b _) ?_
      exact kI hk (by first | rfl | contradiction | simp [blo, b2i, c0, c1])
theorem kX1_turbineInLine {l : Launch} {G : GX} {N : Nat} {S : Nat → va_E} {K : RK} {b : Nat} {F : FM} (hF : isF G N S b F) {x y : Int32} (hk : K (.inl (some (.int (tLn F x y)))) S) : RetK l G N mX1_turbineInLine (2, 43, 0, 0) [.ref (ad G b), .int x, .int y] S K := by
  refine ret_enter (by decide +kernel) (Nat.le_of_ble_eq_true rfl) (fun X hX h hm => ?_)
  subst hX
  replace h : OK X G N cX1_turbineInLine RX1 3 (2, 43, 0, 0) := h
  replace hm : OKm X G N K (some .int) (2, 43, 0, 0) := hm
  show AW X G 3 N 0 [(0, _), (1, _), (2, _)] [] S 0 0
  refine r_aload_n (pc' := 1) h dX1_turbineInLine_0 rfl rfl ?_
  refine gX1_39 (pc' := 4) h dX1_turbineInLine_1 rfl hF.l0 hF.o rfl ?_
  refine r_lsw h dX1_turbineInLine_4 (by decide) (by decide) ?_
  refine ⟨fun e0 => ?_, fun e0 => ?_⟩
  · have e0 := Int32.toInt_inj.mp (e0.trans (by decide : (69 : Int) = Int32.toInt 69))
    show AW X G _ _ 47 _ _ _ _ _
    refine r_aload_n (pc' := 48) h dX1_turbineInLine_47 rfl rfl ?_
    refine r_iload_n (pc' := 49) h dX1_turbineInLine_48 rfl rfl ?_
    refine r_iconst (pc' := 50) (v := 5) h dX1_turbineInLine_49 rfl (by decide) ?_
    refine r_iload_n (pc' := 51) h dX1_turbineInLine_50 rfl rfl ?_
    refine r_isub (pc' := 52) h dX1_turbineInLine_51 rfl ?_
    refine r_callV2 (pc' := 55) (M := mX1_turbineIn) h hm dX1_turbineInLine_52 rfl lX1_137 vX1_turbineIn rfl hF.l0 hF.o (Nat.le_of_ble_eq_true rfl) (rrb rfl) (kX1_turbineIn hF ?_)
    show AW X G _ _ _ _ _ _ _ _
    refine r_ireturn h hm dX1_turbineInLine_55 (Nat.le_of_ble_eq_true rfl) (Nat.le_of_ble_eq_true rfl) ?_
    exact kI hk (by first | rfl | contradiction | simp [tLn, e0])
  · have e0 : ¬ _ = (69 : Int32) := fun z => e0 ((congrArg Int32.toInt z).trans (by decide : Int32.toInt 69 = (69 : Int)))
    refine ⟨fun e1 => ?_, fun e1 => ?_⟩
    · have e1 := Int32.toInt_inj.mp (e1.trans (by decide : (78 : Int) = Int32.toInt 78))
      show AW X G _ _ 40 _ _ _ _ _
      refine r_aload_n (pc' := 41) h dX1_turbineInLine_40 rfl rfl ?_
      refine r_iload_n (pc' := 42) h dX1_turbineInLine_41 rfl rfl ?_
      refine r_iload_n (pc' := 43) h dX1_turbineInLine_42 rfl rfl ?_
      refine r_callV2 (pc' := 46) (M := mX1_turbineIn) h hm dX1_turbineInLine_43 rfl lX1_137 vX1_turbineIn rfl hF.l0 hF.o (Nat.le_of_ble_eq_true rfl) (rrb rfl) (kX1_turbineIn hF ?_)
      show AW X G _ _ _ _ _ _ _ _
      refine r_ireturn h hm dX1_turbineInLine_46 (Nat.le_of_ble_eq_true rfl) (Nat.le_of_ble_eq_true rfl) ?_
      exact kI hk (by first | rfl | contradiction | simp [tLn, e0, e1])
    · have e1 : ¬ _ = (78 : Int32) := fun z => e1 ((congrArg Int32.toInt z).trans (by decide : Int32.toInt 78 = (78 : Int)))
      refine ⟨fun e2 => ?_, fun e2 => ?_⟩
      · have e2 := Int32.toInt_inj.mp (e2.trans (by decide : (83 : Int) = Int32.toInt 83))
        show AW X G _ _ 56 _ _ _ _ _
        refine r_aload_n (pc' := 57) h dX1_turbineInLine_56 rfl rfl ?_
        refine r_iconst (pc' := 58) (v := 4) h dX1_turbineInLine_57 rfl (by decide) ?_
        refine r_iload_n (pc' := 59) h dX1_turbineInLine_58 rfl rfl ?_
        refine r_isub (pc' := 60) h dX1_turbineInLine_59 rfl ?_
        refine r_iload_n (pc' := 61) h dX1_turbineInLine_60 rfl rfl ?_
        refine r_callV2 (pc' := 64) (M := mX1_turbineIn) h hm dX1_turbineInLine_61 rfl lX1_137 vX1_turbineIn rfl hF.l0 hF.o (Nat.le_of_ble_eq_true rfl) (rrb rfl) (kX1_turbineIn hF ?_)
        show AW X G _ _ _ _ _ _ _ _
        refine r_ireturn h hm dX1_turbineInLine_64 (Nat.le_of_ble_eq_true rfl) (Nat.le_of_ble_eq_true rfl) ?_
        exact kI hk (by first | rfl | contradiction | simp [tLn, e0, e1, e2])
      · have e2 : ¬ _ = (83 : Int32) := fun z => e2 ((congrArg Int32.toInt z).trans (by decide : Int32.toInt 83 = (83 : Int)))
        show AW X G _ _ 65 _ _ _ _ _
        refine r_aload_n (pc' := 66) h dX1_turbineInLine_65 rfl rfl ?_
        refine r_iload_n (pc' := 67) h dX1_turbineInLine_66 rfl rfl ?_
        refine r_iload_n (pc' := 68) h dX1_turbineInLine_67 rfl rfl ?_
        refine r_callV2 (pc' := 71) (M := mX1_turbineIn) h hm dX1_turbineInLine_68 rfl lX1_137 vX1_turbineIn rfl hF.l0 hF.o (Nat.le_of_ble_eq_true rfl) (rrb rfl) (kX1_turbineIn hF ?_)
        show AW X G _ _ _ _ _ _ _ _
        refine r_ireturn h hm dX1_turbineInLine_71 (Nat.le_of_ble_eq_true rfl) (Nat.le_of_ble_eq_true rfl) ?_
        exact kI hk (by first | rfl | contradiction | simp [tLn, e0, e1, e2])
theorem kX1_sumOfLine {l : Launch} {G : GX} {N : Nat} {S : Nat → va_E} {K : RK} {b : Nat} {F : FM} (hF : isF G N S b F) {x : Int32} (hk : K (.inl (some (.int (lSum F x (lLen F))))) S) : RetK l G N mX1_sumOfLine (3, 65, 0, 0) [.ref (ad G b), .int x] S K := by
  refine ret_enter (by decide +kernel) (Nat.le_of_ble_eq_true rfl) (fun X hX h hm => ?_)
  subst hX
  replace h : OK X G N cX1_sumOfLine RX1 9 (3, 65, 0, 0) := h
  replace hm : OKm X G N K (some .int) (3, 65, 0, 0) := hm
  show AW X G 9 N 0 [(0, _), (1, _)] [] S 0 0
  refine r_aload_n (pc' := 1) h dX1_sumOfLine_0 rfl rfl ?_
  refine r_callV0 (pc' := 4) (M := mX1_blowsAlongColumns) h hm dX1_sumOfLine_1 rfl lX1_127 vX1_blowsAlongColumns rfl hF.l0 hF.o (Nat.le_of_ble_eq_true rfl) (rrb rfl) (kX1_blowsAlongColumns hF ?_)
  show AW X G _ _ _ _ _ _ _ _
  refine r_if_eqb (tgt := 11) (pc' := 7) h dX1_sumOfLine_4 (by decide) rfl (fun c0 => ?_) (fun c0 => ?_)
  · refine r_bipush (pc' := 13) (v := 6) h dX1_sumOfLine_11 rfl (by decide) ?_
    refine r_istoren (j := 2) (pc' := 14) h rfl dX1_sumOfLine_13 rfl (by decide) rfl ?_
    refine r_iconst (pc' := 15) (v := 0) h dX1_sumOfLine_14 rfl (by decide) ?_
    refine r_istoren (j := 3) (pc' := 16) h rfl dX1_sumOfLine_15 rfl (by decide) rfl ?_
    refine r_iconst (pc' := 17) (v := 0) h dX1_sumOfLine_16 rfl (by decide) ?_
    refine r_istore (pc' := 19) h dX1_sumOfLine_17 rfl (by decide) rfl ?_
    refine r_iconst (pc' := 20) (v := 0) h dX1_sumOfLine_19 rfl (by decide) ?_
    refine r_istore (pc' := 22) h dX1_sumOfLine_20 rfl (by decide) rfl ?_
    refine r_iconst (pc' := 23) (v := 0) h dX1_sumOfLine_22 rfl (by decide) ?_
    refine r_istore (pc' := 25) h dX1_sumOfLine_23 rfl (by decide) rfl ?_
    have loop : ∀ (n j : Nat), j ≤ lLen F → lLen F - j < n → AW X G 9 N 25 [(0, .ref (ad G b)), (1, .int x), (2, .int (nI (lLen F))), (3, .int (b2i (lNear F x j))), (4, .int (b2i (lFar F x j))), (5, .int (lSum F x j)), (6, .int (nI j))] [] S 0 0 := by
      intro n
      induction n with
      | zero => intro j h1 h2; exact absurd h2 (by omega)
      | succ n ih =>
        intro j h1 h2
        refine r_iload (pc' := 27) h dX1_sumOfLine_25 rfl rfl ?_
        refine r_iload_n (pc' := 28) h dX1_sumOfLine_27 rfl rfl ?_
        refine r_icmp_ge (tgt := 88) (pc' := 31) h dX1_sumOfLine_28 (by decide) rfl (fun c1 => ?_) (fun c1 => ?_)
        · have ej := lp_ge (c := lLen F) rfl (by unfold lLen; split <;> decide) h1 c1
          subst ej
          refine r_iload (pc' := 90) h dX1_sumOfLine_88 rfl rfl ?_
          refine r_ireturn h hm dX1_sumOfLine_90 (Nat.le_of_ble_eq_true rfl) (Nat.le_of_ble_eq_true rfl) ?_
          exact kI hk (by first | rfl | contradiction | simp [lSum, c1])
        · have hj := lp_lt (c := lLen F) rfl (by unfold lLen; split <;> decide) h1 c1
          refine r_aload_n (pc' := 32) h dX1_sumOfLine_31 rfl rfl ?_
          refine r_iload_n (pc' := 33) h dX1_sumOfLine_32 rfl rfl ?_
          refine r_iload (pc' := 35) h dX1_sumOfLine_33 rfl rfl ?_
          refine r_callV2 (pc' := 38) (M := mX1_turbineInLine) h hm dX1_sumOfLine_35 rfl lX1_134 vX1_turbineInLine rfl hF.l0 hF.o (Nat.le_of_ble_eq_true rfl) (rrb rfl) (kX1_turbineInLine hF ?_)
          show AW X G _ _ _ _ _ _ _ _
          refine r_istore (pc' := 40) h dX1_sumOfLine_38 rfl (by decide) rfl ?_
          refine r_iload_n (pc' := 41) h dX1_sumOfLine_40 rfl rfl ?_
          refine r_iload (pc' := 43) h dX1_sumOfLine_41 rfl rfl ?_
          refine r_callS2 (pc' := 46) (M := mX1_wakeOf) h hm dX1_sumOfLine_43 rfl lX1_100 vX1_wakeOf (Nat.le_of_ble_eq_true rfl) (rrb rfl) (kX1_wakeOf ?_)
          show AW X G _ _ _ _ _ _ _ _
          refine r_istore (pc' := 48) h dX1_sumOfLine_46 rfl (by decide) rfl ?_
          refine r_iload (pc' := 50) h dX1_sumOfLine_48 rfl rfl ?_
          refine r_aload_n (pc' := 51) h dX1_sumOfLine_50 rfl rfl ?_
          refine r_iload (pc' := 53) h dX1_sumOfLine_51 rfl rfl ?_
          refine r_aload_n (pc' := 54) h dX1_sumOfLine_53 rfl rfl ?_
          refine r_iload (pc' := 56) h dX1_sumOfLine_54 rfl rfl ?_
          refine r_aload_n (pc' := 57) h dX1_sumOfLine_56 rfl rfl ?_
          refine gX1_54 (pc' := 60) h dX1_sumOfLine_57 rfl hF.l0 hF.o rfl ?_
          refine r_iload (pc' := 62) h dX1_sumOfLine_60 rfl rfl ?_
          refine r_callV3 (pc' := 65) (M := mX1_powerAfter) h hm dX1_sumOfLine_62 rfl lX1_116 vX1_powerAfter rfl hF.l0 hF.o (Nat.le_of_ble_eq_true rfl) (rrb rfl) (kX1_powerAfter hF ?_)
          show AW X G _ _ _ _ _ _ _ _
          refine r_callV2 (pc' := 68) (M := mX1_limited) h hm dX1_sumOfLine_65 rfl lX1_120 vX1_limited rfl hF.l0 hF.o (Nat.le_of_ble_eq_true rfl) (rrb rfl) (kX1_limited hF ?_)
          show AW X G _ _ _ _ _ _ _ _
          refine r_iadd (pc' := 69) h dX1_sumOfLine_68 rfl ?_
          refine r_istore (pc' := 71) h dX1_sumOfLine_69 rfl (by decide) rfl ?_
          refine r_iload_n (pc' := 72) h dX1_sumOfLine_71 rfl rfl ?_
          refine r_istore (pc' := 74) h dX1_sumOfLine_72 rfl (by decide) rfl ?_
          refine r_aload_n (pc' := 75) h dX1_sumOfLine_74 rfl rfl ?_
          refine r_iload (pc' := 77) h dX1_sumOfLine_75 rfl rfl ?_
          refine r_iconst (pc' := 78) (v := 1) h dX1_sumOfLine_77 rfl (by decide) ?_
          refine r_callV2 (pc' := 81) (M := mX1_isInState) h hm dX1_sumOfLine_78 rfl lX1_84 vX1_isInState rfl hF.l0 hF.o (Nat.le_of_ble_eq_true rfl) (rrb rfl) (kX1_isInState hF ?_)
          show AW X G _ _ _ _ _ _ _ _
          refine r_istoren (j := 3) (pc' := 82) h rfl dX1_sumOfLine_81 rfl (by decide) rfl ?_
          refine r_iinc (pc' := 85) (v := 1) h dX1_sumOfLine_82 rfl (by decide) (by decide) rfl rfl ?_
          refine r_goto (tgt := 25) h dX1_sumOfLine_85 (by decide) ?_
          refine r_sub (lo' := [(0, _), (1, _), (2, _), (3, _), (4, _), (5, _), (6, _)]) [0, 1, 2, 3, 4, 5, 6] rfl ?_
          exact aw_cast (by simp [lNear_s, lFar_s, lSum, nI_1, c1]) (ih (j + 1) (by omega) (by omega))
    exact aw_cast (by simp [lLen, lNear_0, lFar_0, lSum, b2i, c0]; decide) (loop (lLen F + 1) 0 (Nat.zero_le _) (by omega))
  · refine r_iconst (pc' := 8) (v := 5) h dX1_sumOfLine_7 rfl (by decide) ?_
    refine r_goto (tgt := 13) h dX1_sumOfLine_8 (by decide) ?_
    refine r_istoren (j := 2) (pc' := 14) h rfl dX1_sumOfLine_13 rfl (by decide) rfl ?_
    refine r_iconst (pc' := 15) (v := 0) h dX1_sumOfLine_14 rfl (by decide) ?_
    refine r_istoren (j := 3) (pc' := 16) h rfl dX1_sumOfLine_15 rfl (by decide) rfl ?_
    refine r_iconst (pc' := 17) (v := 0) h dX1_sumOfLine_16 rfl (by decide) ?_
    refine r_istore (pc' := 19) h dX1_sumOfLine_17 rfl (by decide) rfl ?_
    refine r_iconst (pc' := 20) (v := 0) h dX1_sumOfLine_19 rfl (by decide) ?_
    refine r_istore (pc' := 22) h dX1_sumOfLine_20 rfl (by decide) rfl ?_
    refine r_iconst (pc' := 23) (v := 0) h dX1_sumOfLine_22 rfl (by decide) ?_
    refine r_istore (pc' := 25) h dX1_sumOfLine_23 rfl (by decide) rfl ?_
    have loop : ∀ (n j : Nat), j ≤ lLen F → lLen F - j < n → AW X G 9 N 25 [(0, .ref (ad G b)), (1, .int x), (2, .int (nI (lLen F))), (3, .int (b2i (lNear F x j))), (4, .int (b2i (lFar F x j))), (5, .int (lSum F x j)), (6, .int (nI j))] [] S 0 0 := by
      intro n
      induction n with
      | zero => intro j h1 h2; exact absurd h2 (by omega)
      | succ n ih =>
        intro j h1 h2
        refine r_iload (pc' := 27) h dX1_sumOfLine_25 rfl rfl ?_
        refine r_iload_n (pc' := 28) h dX1_sumOfLine_27 rfl rfl ?_
        refine r_icmp_ge (tgt := 88) (pc' := 31) h dX1_sumOfLine_28 (by decide) rfl (fun c2 => ?_) (fun c2 => ?_)
        · have ej := lp_ge (c := lLen F) rfl (by unfold lLen; split <;> decide) h1 c2
          subst ej
          refine r_iload (pc' := 90) h dX1_sumOfLine_88 rfl rfl ?_
          refine r_ireturn h hm dX1_sumOfLine_90 (Nat.le_of_ble_eq_true rfl) (Nat.le_of_ble_eq_true rfl) ?_
          exact kI hk (by first | rfl | contradiction | simp [lSum, c2])
        · have hj := lp_lt (c := lLen F) rfl (by unfold lLen; split <;> decide) h1 c2
          refine r_aload_n (pc' := 32) h dX1_sumOfLine_31 rfl rfl ?_
          refine r_iload_n (pc' := 33) h dX1_sumOfLine_32 rfl rfl ?_
          refine r_iload (pc' := 35) h dX1_sumOfLine_33 rfl rfl ?_
          refine r_callV2 (pc' := 38) (M := mX1_turbineInLine) h hm dX1_sumOfLine_35 rfl lX1_134 vX1_turbineInLine rfl hF.l0 hF.o (Nat.le_of_ble_eq_true rfl) (rrb rfl) (kX1_turbineInLine hF ?_)
          show AW X G _ _ _ _ _ _ _ _
          refine r_istore (pc' := 40) h dX1_sumOfLine_38 rfl (by decide) rfl ?_
          refine r_iload_n (pc' := 41) h dX1_sumOfLine_40 rfl rfl ?_
          refine r_iload (pc' := 43) h dX1_sumOfLine_41 rfl rfl ?_
          refine r_callS2 (pc' := 46) (M := mX1_wakeOf) h hm dX1_sumOfLine_43 rfl lX1_100 vX1_wakeOf (Nat.le_of_ble_eq_true rfl) (rrb rfl) (kX1_wakeOf ?_)
          show AW X G _ _ _ _ _ _ _ _
          refine r_istore (pc' := 48) h dX1_sumOfLine_46 rfl (by decide) rfl ?_
          refine r_iload (pc' := 50) h dX1_sumOfLine_48 rfl rfl ?_
          refine r_aload_n (pc' := 51) h dX1_sumOfLine_50 rfl rfl ?_
          refine r_iload (pc' := 53) h dX1_sumOfLine_51 rfl rfl ?_
          refine r_aload_n (pc' := 54) h dX1_sumOfLine_53 rfl rfl ?_
          refine r_iload (pc' := 56) h dX1_sumOfLine_54 rfl rfl ?_
          refine r_aload_n (pc' := 57) h dX1_sumOfLine_56 rfl rfl ?_
          refine gX1_54 (pc' := 60) h dX1_sumOfLine_57 rfl hF.l0 hF.o rfl ?_
          refine r_iload (pc' := 62) h dX1_sumOfLine_60 rfl rfl ?_
          refine r_callV3 (pc' := 65) (M := mX1_powerAfter) h hm dX1_sumOfLine_62 rfl lX1_116 vX1_powerAfter rfl hF.l0 hF.o (Nat.le_of_ble_eq_true rfl) (rrb rfl) (kX1_powerAfter hF ?_)
          show AW X G _ _ _ _ _ _ _ _
          refine r_callV2 (pc' := 68) (M := mX1_limited) h hm dX1_sumOfLine_65 rfl lX1_120 vX1_limited rfl hF.l0 hF.o (Nat.le_of_ble_eq_true rfl) (rrb rfl) (kX1_limited hF ?_)
          show AW X G _ _ _ _ _ _ _ _
          refine r_iadd (pc' := 69) h dX1_sumOfLine_68 rfl ?_
          refine r_istore (pc' := 71) h dX1_sumOfLine_69 rfl (by decide) rfl ?_
          refine r_iload_n (pc' := 72) h dX1_sumOfLine_71 rfl rfl ?_
          refine r_istore (pc' := 74) h dX1_sumOfLine_72 rfl (by decide) rfl ?_
          refine r_aload_n (pc' := 75) h dX1_sumOfLine_74 rfl rfl ?_
          refine r_iload (pc' := 77) h dX1_sumOfLine_75 rfl rfl ?_
          refine r_iconst (pc' := 78) (v := 1) h dX1_sumOfLine_77 rfl (by decide) ?_
          refine r_callV2 (pc' := 81) (M := mX1_isInState) h hm dX1_sumOfLine_78 rfl lX1_84 vX1_isInState rfl hF.l0 hF.o (Nat.le_of_ble_eq_true rfl) (rrb rfl) (kX1_isInState hF ?_)
          show AW X G _ _ _ _ _ _ _ _
          refine r_istoren (j := 3) (pc' := 82) h rfl dX1_sumOfLine_81 rfl (by decide) rfl ?_
          refine r_iinc (pc' := 85) (v := 1) h dX1_sumOfLine_82 rfl (by decide) (by decide) rfl rfl ?_
          refine r_goto (tgt := 25) h dX1_sumOfLine_85 (by decide) ?_
          refine r_sub (lo' := [(0, _), (1, _), (2, _), (3, _), (4, _), (5, _), (6, _)]) [0, 1, 2, 3, 4, 5, 6] rfl ?_
          exact aw_cast (by simp [lNear_s, lFar_s, lSum, nI_1, c2]) (ih (j + 1) (by omega) (by omega))
    exact aw_cast (by simp [lLen, lNear_0, lFar_0, lSum, b2i, c0]; decide) (loop (lLen F + 1) 0 (Nat.zero_le _) (by omega))
theorem kX1_isTurbineAhead {l : Launch} {G : GX} {N : Nat} {S : Nat → va_E} {K : RK} {b : Nat} {F : FM} (hF : isF G N S b F) {x y : Int32} (hk : K (.inl (some (.int (b2i (tAh F x y))))) S) : RetK l G N mX1_isTurbineAhead (3, 71, 0, 0) [.ref (ad G b), .int x, .int y] S K := by
  refine ret_enter (by decide +kernel) (Nat.le_of_ble_eq_true rfl) (fun X hX h hm => ?_)
  subst hX
  replace h : OK X G N cX1_isTurbineAhead RX1 4 (3, 71, 0, 0) := h
  replace hm : OKm X G N K (some .boolean) (3, 71, 0, 0) := hm
  show AW X G 4 N 0 [(0, _), (1, _), (2, _)] [] S 0 0
  refine r_aload_n (pc' := 1) h dX1_isTurbineAhead_0 rfl rfl ?_
  refine r_iload_n (pc' := 2) h dX1_isTurbineAhead_1 rfl rfl ?_
  refine r_aload_n (pc' := 3) h dX1_isTurbineAhead_2 rfl rfl ?_
  refine gX1_39 (pc' := 6) h dX1_isTurbineAhead_3 rfl hF.l0 hF.o rfl ?_
  refine r_aload_n (pc' := 7) h dX1_isTurbineAhead_6 rfl rfl ?_
  refine gX1_54 (pc' := 10) h dX1_isTurbineAhead_7 rfl hF.l0 hF.o rfl ?_
  refine r_callV3 (pc' := 13) (M := mX1_outputIn) h hm dX1_isTurbineAhead_10 rfl lX1_123 vX1_outputIn rfl hF.l0 hF.o (Nat.le_of_ble_eq_true rfl) (rrb rfl) (kX1_outputIn hF ?_)
  show AW X G _ _ _ _ _ _ _ _
  refine r_aload_n (pc' := 14) h dX1_isTurbineAhead_13 rfl rfl ?_
  refine r_iload_n (pc' := 15) h dX1_isTurbineAhead_14 rfl rfl ?_
  refine r_aload_n (pc' := 16) h dX1_isTurbineAhead_15 rfl rfl ?_
  refine gX1_39 (pc' := 19) h dX1_isTurbineAhead_16 rfl hF.l0 hF.o rfl ?_
  refine r_aload_n (pc' := 20) h dX1_isTurbineAhead_19 rfl rfl ?_
  refine gX1_54 (pc' := 23) h dX1_isTurbineAhead_20 rfl hF.l0 hF.o rfl ?_
  refine r_callV3 (pc' := 26) (M := mX1_outputIn) h hm dX1_isTurbineAhead_23 rfl lX1_123 vX1_outputIn rfl hF.l0 hF.o (Nat.le_of_ble_eq_true rfl) (rrb rfl) (kX1_outputIn hF ?_)
  show AW X G _ _ _ _ _ _ _ _
  refine r_isub (pc' := 27) h dX1_isTurbineAhead_26 rfl ?_
  refine r_istoren (j := 3) (pc' := 28) h rfl dX1_isTurbineAhead_27 rfl (by decide) rfl ?_
  refine r_iload_n (pc' := 29) h dX1_isTurbineAhead_28 rfl rfl ?_
  refine r_if_ne (tgt := 50) (pc' := 32) h dX1_isTurbineAhead_29 (by decide) rfl (fun c0 => ?_) (fun c0 => ?_)
  · refine r_iload_n (pc' := 51) h dX1_isTurbineAhead_50 rfl rfl ?_
    refine r_if_ne (tgt := 67) (pc' := 54) h dX1_isTurbineAhead_51 (by decide) rfl (fun c1 => ?_) (fun c1 => ?_)
    · refine r_iload_n (pc' := 68) h dX1_isTurbineAhead_67 rfl rfl ?_
      refine r_if_le (tgt := 75) (pc' := 71) h dX1_isTurbineAhead_68 (by decide) rfl (fun c2 => ?_) (fun c2 => ?_)
      · refine r_iconst (pc' := 76) (v := 0) h dX1_isTurbineAhead_75 rfl (by decide) ?_
        refine r_zreturn h hm dX1_isTurbineAhead_76 (Nat.le_of_ble_eq_true rfl) (Nat.le_of_ble_eq_true rfl) (by first | rfl | exact nar_b _) ?_
        exact kI hk (by first | rfl | contradiction | simp [tAh, b2i, c0, c1, c2])
      · refine r_iconst (pc' := 72) (v := 1) h dX1_isTurbineAhead_71 rfl (by decide) ?_
        refine r_goto (tgt := 76) h dX1_isTurbineAhead_72 (by decide) ?_
        refine r_zreturn h hm dX1_isTurbineAhead_76 (Nat.le_of_ble_eq_true rfl) (Nat.le_of_ble_eq_true rfl) (by first | rfl | exact nar_b _) ?_
        exact kI hk (by first | rfl | contradiction | simp [tAh, b2i, c0, c1, c2])
    · refine r_iload_n (pc' := 55) h dX1_isTurbineAhead_54 rfl rfl ?_
      refine r_iload_n (pc' := 56) h dX1_isTurbineAhead_55 rfl rfl ?_
      refine r_icmp_ge (tgt := 63) (pc' := 59) h dX1_isTurbineAhead_56 (by decide) rfl (fun c3 => ?_) (fun c3 => ?_)
      · refine r_iconst (pc' := 64) (v := 0) h dX1_isTurbineAhead_63 rfl (by decide) ?_
        refine r_goto (tgt := 76) h dX1_isTurbineAhead_64 (by decide) ?_
        refine r_zreturn h hm dX1_isTurbineAhead_76 (Nat.le_of_ble_eq_true rfl) (Nat.le_of_ble_eq_true rfl) (by first | rfl | exact nar_b _) ?_
        exact kI hk (by first | rfl | contradiction | simp [tAh, b2i, c0, c1, c3])
      · refine r_iconst (pc' := 60) (v := 1) h dX1_isTurbineAhead_59 rfl (by decide) ?_
        refine r_goto (tgt := 76) h dX1_isTurbineAhead_60 (by decide) ?_
        refine r_zreturn h hm dX1_isTurbineAhead_76 (Nat.le_of_ble_eq_true rfl) (Nat.le_of_ble_eq_true rfl) (by first | rfl | exact nar_b _) ?_
        exact kI hk (by first | rfl | contradiction | simp [tAh, b2i, c0, c1, c3])
  · refine r_aload_n (pc' := 33) h dX1_isTurbineAhead_32 rfl rfl ?_
    refine gX1_18 (pc' := 36) h dX1_isTurbineAhead_33 rfl hF.l0 hF.o rfl ?_
    refine r_iload_n (pc' := 37) h dX1_isTurbineAhead_36 rfl rfl ?_
    refine r_callSN2 (pc' := 40) (M := mX4_valueAt) h hm dX1_isTurbineAhead_37 rfl lX1_80 vX4_valueAt (Nat.le_of_ble_eq_true rfl) (rrb rfl) (kX4_valueAt hF.l3 hF.r3 (by decide) ?_)
    show AW X G _ _ _ _ _ _ _ _
    refine r_aload_n (pc' := 41) h dX1_isTurbineAhead_40 rfl rfl ?_
    refine gX1_18 (pc' := 44) h dX1_isTurbineAhead_41 rfl hF.l0 hF.o rfl ?_
    refine r_iload_n (pc' := 45) h dX1_isTurbineAhead_44 rfl rfl ?_
    refine r_callSN2 (pc' := 48) (M := mX4_valueAt) h hm dX1_isTurbineAhead_45 rfl lX1_80 vX4_valueAt (Nat.le_of_ble_eq_true rfl) (rrb rfl) (kX4_valueAt hF.l3 hF.r3 (by decide) ?_)
    show AW X G _ _ _ _ _ _ _ _
    refine r_isub (pc' := 49) h dX1_isTurbineAhead_48 rfl ?_
    refine r_istoren (j := 3) (pc' := 50) h rfl dX1_isTurbineAhead_49 rfl (by decide) rfl ?_
    refine r_iload_n (pc' := 51) h dX1_isTurbineAhead_50 rfl rfl ?_
    refine r_if_ne (tgt := 67) (pc' := 54) h dX1_isTurbineAhead_51 (by decide) rfl (fun c4 => ?_) (fun c4 => ?_)
    · refine r_iload_n (pc' := 68) h dX1_isTurbineAhead_67 rfl rfl ?_
      refine r_if_le (tgt := 75) (pc' := 71) h dX1_isTurbineAhead_68 (by decide) rfl (fun c5 => ?_) (fun c5 => ?_)
      · refine r_iconst (pc' := 76) (v := 0) h dX1_isTurbineAhead_75 rfl (by decide) ?_
        refine r_zreturn h hm dX1_isTurbineAhead_76 (Nat.le_of_ble_eq_true rfl) (Nat.le_of_ble_eq_true rfl) (by first | rfl | exact nar_b _) ?_
        exact kI hk (by first | rfl | contradiction | simp [tAh, b2i, c0, c4, c5])
      · refine r_iconst (pc' := 72) (v := 1) h dX1_isTurbineAhead_71 rfl (by decide) ?_
        refine r_goto (tgt := 76) h dX1_isTurbineAhead_72 (by decide) ?_
        refine r_zreturn h hm dX1_isTurbineAhead_76 (Nat.le_of_ble_eq_true rfl) (Nat.le_of_ble_eq_true rfl) (by first | rfl | exact nar_b _) ?_
        exact kI hk (by first | rfl | contradiction | simp [tAh, b2i, c0, c4, c5])
    · refine r_iload_n (pc' := 55) h dX1_isTurbineAhead_54 rfl rfl ?_
      refine r_iload_n (pc' := 56) h dX1_isTurbineAhead_55 rfl rfl ?_
      refine r_icmp_ge (tgt := 63) (pc' := 59) h dX1_isTurbineAhead_56 (by decide) rfl (fun c6 => ?_) (fun c6 => ?_)
      · refine r_iconst (pc' := 64) (v := 0) h dX1_isTurbineAhead_63 rfl (by decide) ?_
        refine r_goto (tgt := 76) h dX1_isTurbineAhead_64 (by decide) ?_
        refine r_zreturn h hm dX1_isTurbineAhead_76 (Nat.le_of_ble_eq_true rfl) (Nat.le_of_ble_eq_true rfl) (by first | rfl | exact nar_b _) ?_
        exact kI hk (by first | rfl | contradiction | simp [tAh, b2i, c0, c4, c6])
      · refine r_iconst (pc' := 60) (v := 1) h dX1_isTurbineAhead_59 rfl (by decide) ?_
        refine r_goto (tgt := 76) h dX1_isTurbineAhead_60 (by decide) ?_
        refine r_zreturn h hm dX1_isTurbineAhead_76 (Nat.le_of_ble_eq_true rfl) (Nat.le_of_ble_eq_true rfl) (by first | rfl | exact nar_b _) ?_
        exact kI hk (by first | rfl | contradiction | simp [tAh, b2i, c0, c4, c6])
theorem kX1_isBidAhead {l : Launch} {G : GX} {N : Nat} {S : Nat → va_E} {K : RK} {b : Nat} {F : FM} (hF : isF G N S b F) {x y : Int32} (hk : K (.inl (some (.int (b2i (bAh F x y))))) S) : RetK l G N mX1_isBidAhead (1, 21, 0, 0) [.ref (ad G b), .int x, .int y] S K := by
  refine ret_enter (by decide +kernel) (Nat.le_of_ble_eq_true rfl) (fun X hX h hm => ?_)
  subst hX
  replace h : OK X G N cX1_isBidAhead RX1 4 (1, 21, 0, 0) := h
  replace hm : OKm X G N K (some .boolean) (1, 21, 0, 0) := hm
  show AW X G 4 N 0 [(0, _), (1, _), (2, _)] [] S 0 0
  refine r_aload_n (pc' := 1) h dX1_isBidAhead_0 rfl rfl ?_
  refine gX1_33 (pc' := 4) h dX1_isBidAhead_1 rfl hF.l0 hF.o rfl ?_
  refine r_iload_n (pc' := 5) h dX1_isBidAhead_4 rfl rfl ?_
  refine r_callSN2 (pc' := 8) (M := mX4_valueAt) h hm dX1_isBidAhead_5 rfl lX1_80 vX4_valueAt (Nat.le_of_ble_eq_true rfl) (rrb rfl) (kX4_valueAt hF.l8 hF.r8 (by decide) ?_)
  show AW X G _ _ _ _ _ _ _ _
  refine r_aload_n (pc' := 9) h dX1_isBidAhead_8 rfl rfl ?_
  refine gX1_33 (pc' := 12) h dX1_isBidAhead_9 rfl hF.l0 hF.o rfl ?_
  refine r_iload_n (pc' := 13) h dX1_isBidAhead_12 rfl rfl ?_
  refine r_callSN2 (pc' := 16) (M := mX4_valueAt) h hm dX1_isBidAhead_13 rfl lX1_80 vX4_valueAt (Nat.le_of_ble_eq_true rfl) (rrb rfl) (kX4_valueAt hF.l8 hF.r8 (by decide) ?_)
  show AW X G _ _ _ _ _ _ _ _
  refine r_isub (pc' := 17) h dX1_isBidAhead_16 rfl ?_
  refine r_istoren (j := 3) (pc' := 18) h rfl dX1_isBidAhead_17 rfl (by decide) rfl ?_
  refine r_iload_n (pc' := 19) h dX1_isBidAhead_18 rfl rfl ?_
  refine r_if_ne (tgt := 40) (pc' := 22) h dX1_isBidAhead_19 (by decide) rfl (fun c0 => ?_) (fun c0 => ?_)
  · refine r_iload_n (pc' := 41) h dX1_isBidAhead_40 rfl rfl ?_
    refine r_if_ne (tgt := 57) (pc' := 44) h dX1_isBidAhead_41 (by decide) rfl (fun c1 => ?_) (fun c1 => ?_)
    · refine r_iload_n (pc' := 58) h dX1_isBidAhead_57 rfl rfl ?_
      refine r_if_le (tgt := 65) (pc' := 61) h dX1_isBidAhead_58 (by decide) rfl (fun c2 => ?_) (fun c2 => ?_)
      · refine r_iconst (pc' := 66) (v := 0) h dX1_isBidAhead_65 rfl (by decide) ?_
        refine r_zreturn h hm dX1_isBidAhead_66 (Nat.le_of_ble_eq_true rfl) (Nat.le_of_ble_eq_true rfl) (by first | rfl | exact nar_b _) ?_
        exact kI hk (by first | rfl | contradiction | simp [bAh, b2i, c0, c1, c2])
      · refine r_iconst (pc' := 62) (v := 1) h dX1_isBidAhead_61 rfl (by decide) ?_
        refine r_goto (tgt := 66) h dX1_isBidAhead_62 (by decide) ?_
        refine r_zreturn h hm dX1_isBidAhead_66 (Nat.le_of_ble_eq_true rfl) (Nat.le_of_ble_eq_true rfl) (by first | rfl | exact nar_b _) ?_
        exact kI hk (by first | rfl | contradiction | simp [bAh, b2i, c0, c1, c2])
    · refine r_iload_n (pc' := 45) h dX1_isBidAhead_44 rfl rfl ?_
      refine r_iload_n (pc' := 46) h dX1_isBidAhead_45 rfl rfl ?_
      refine r_icmp_ge (tgt := 53) (pc' := 49) h dX1_isBidAhead_46 (by decide) rfl (fun c3 => ?_) (fun c3 => ?_)
      · refine r_iconst (pc' := 54) (v := 0) h dX1_isBidAhead_53 rfl (by decide) ?_
        refine r_goto (tgt := 66) h dX1_isBidAhead_54 (by decide) ?_
        refine r_zreturn h hm dX1_isBidAhead_66 (Nat.le_of_ble_eq_true rfl) (Nat.le_of_ble_eq_true rfl) (by first | rfl | exact nar_b _) ?_
        exact kI hk (by first | rfl | contradiction | simp [bAh, b2i, c0, c1, c3])
      · refine r_iconst (pc' := 50) (v := 1) h dX1_isBidAhead_49 rfl (by decide) ?_
        refine r_goto (tgt := 66) h dX1_isBidAhead_50 (by decide) ?_
        refine r_zreturn h hm dX1_isBidAhead_66 (Nat.le_of_ble_eq_true rfl) (Nat.le_of_ble_eq_true rfl) (by first | rfl | exact nar_b _) ?_
        exact kI hk (by first | rfl | contradiction | simp [bAh, b2i, c0, c1, c3])
  · refine r_aload_n (pc' := 23) h dX1_isBidAhead_22 rfl rfl ?_
    refine gX1_36 (pc' := 26) h dX1_isBidAhead_23 rfl hF.l0 hF.o rfl ?_
    refine r_iload_n (pc' := 27) h dX1_isBidAhead_26 rfl rfl ?_
    refine r_callSN2 (pc' := 30) (M := mX4_valueAt) h hm dX1_isBidAhead_27 rfl lX1_80 vX4_valueAt (Nat.le_of_ble_eq_true rfl) (rrb rfl) (kX4_valueAt hF.l9 hF.r9 (by decide) ?_)
    show AW X G _ _ _ _ _ _ _ _
    refine r_aload_n (pc' := 31) h dX1_isBidAhead_30 rfl rfl ?_
    refine gX1_36 (pc' := 34) h dX1_isBidAhead_31 rfl hF.l0 hF.o rfl ?_
    refine r_iload_n (pc' := 35) h dX1_isBidAhead_34 rfl rfl ?_
    refine r_callSN2 (pc' := 38) (M := mX4_valueAt) h hm dX1_isBidAhead_35 rfl lX1_80 vX4_valueAt (Nat.le_of_ble_eq_true rfl) (rrb rfl) (kX4_valueAt hF.l9 hF.r9 (by decide) ?_)
    show AW X G _ _ _ _ _ _ _ _
    refine r_isub (pc' := 39) h dX1_isBidAhead_38 rfl ?_
    refine r_istoren (j := 3) (pc' := 40) h rfl dX1_isBidAhead_39 rfl (by decide) rfl ?_
    refine r_iload_n (pc' := 41) h dX1_isBidAhead_40 rfl rfl ?_
    refine r_if_ne (tgt := 57) (pc' := 44) h dX1_isBidAhead_41 (by decide) rfl (fun c4 => ?_) (fun c4 => ?_)
    · refine r_iload_n (pc' := 58) h dX1_isBidAhead_57 rfl rfl ?_
      refine r_if_le (tgt := 65) (pc' := 61) h dX1_isBidAhead_58 (by decide) rfl (fun c5 => ?_) (fun c5 => ?_)
      · refine r_iconst (pc' := 66) (v := 0) h dX1_isBidAhead_65 rfl (by decide) ?_
        refine r_zreturn h hm dX1_isBidAhead_66 (Nat.le_of_ble_eq_true rfl) (Nat.le_of_ble_eq_true rfl) (by first | rfl | exact nar_b _) ?_
        exact kI hk (by first | rfl | contradiction | simp [bAh, b2i, c0, c4, c5])
      · refine r_iconst (pc' := 62) (v := 1) h dX1_isBidAhead_61 rfl (by decide) ?_
        refine r_goto (tgt := 66) h dX1_isBidAhead_62 (by decide) ?_
        refine r_zreturn h hm dX1_isBidAhead_66 (Nat.le_of_ble_eq_true rfl) (Nat.le_of_ble_eq_true rfl) (by first | rfl | exact nar_b _) ?_
        exact kI hk (by first | rfl | contradiction | simp [bAh, b2i, c0, c4, c5])
    · refine r_iload_n (pc' := 45) h dX1_isBidAhead_44 rfl rfl ?_
      refine r_iload_n (pc' := 46) h dX1_isBidAhead_45 rfl rfl ?_
      refine r_icmp_ge (tgt := 53) (pc' := 49) h dX1_isBidAhead_46 (by decide) rfl (fun c6 => ?_) (fun c6 => ?_)
      · refine r_iconst (pc' := 54) (v := 0) h dX1_isBidAhead_53 rfl (by decide) ?_
        refine r_goto (tgt := 66) h dX1_isBidAhead_54 (by decide) ?_
        refine r_zreturn h hm dX1_isBidAhead_66 (Nat.le_of_ble_eq_true rfl) (Nat.le_of_ble_eq_true rfl) (by first | rfl | exact nar_b _) ?_
        exact kI hk (by first | rfl | contradiction | simp [bAh, b2i, c0, c4, c6])
      · refine r_iconst (pc' := 50) (v := 1) h dX1_isBidAhead_49 rfl (by decide) ?_
        refine r_goto (tgt := 66) h dX1_isBidAhead_50 (by decide) ?_
        refine r_zreturn h hm dX1_isBidAhead_66 (Nat.le_of_ble_eq_true rfl) (Nat.le_of_ble_eq_true rfl) (by first | rfl | exact nar_b _) ?_
        exact kI hk (by first | rfl | contradiction | simp [bAh, b2i, c0, c4, c6])
theorem kX1_turbinesAheadOf {l : Launch} {G : GX} {N : Nat} {S : Nat → va_E} {K : RK} {b : Nat} {F : FM} (hF : isF G N S b F) (hw : wF F) {t : Int32} (hk : K (.inl (some (.int (tAo F t (fN F))))) S) : RetK l G N mX1_turbinesAheadOf (4, 94, 0, 0) [.ref (ad G b), .int t] S K := by
  refine ret_enter (by decide +kernel) (Nat.le_of_ble_eq_true rfl) (fun X hX h hm => ?_)
  subst hX
  replace h : OK X G N cX1_turbinesAheadOf RX1 4 (4, 94, 0, 0) := h
  replace hm : OKm X G N K (some .int) (4, 94, 0, 0) := hm
  show AW X G 4 N 0 [(0, _), (1, _)] [] S 0 0
  refine r_iconst (pc' := 1) (v := 0) h dX1_turbinesAheadOf_0 rfl (by decide) ?_
  refine r_istoren (j := 2) (pc' := 2) h rfl dX1_turbinesAheadOf_1 rfl (by decide) rfl ?_
  refine r_iconst (pc' := 3) (v := 0) h dX1_turbinesAheadOf_2 rfl (by decide) ?_
  refine r_istoren (j := 3) (pc' := 4) h rfl dX1_turbinesAheadOf_3 rfl (by decide) rfl ?_
  have loop : ∀ (n j : Nat), j ≤ fN F → fN F - j < n → AW X G 4 N 4 [(0, .ref (ad G b)), (1, .int t), (2, .int (tAo F t j)), (3, .int (nI j))] [] S 0 0 := by
    intro n
    induction n with
    | zero => intro j h1 h2; exact absurd h2 (by omega)
    | succ n ih =>
      intro j h1 h2
      refine r_iload_n (pc' := 5) h dX1_turbinesAheadOf_4 rfl rfl ?_
      refine r_aload_n (pc' := 6) h dX1_turbinesAheadOf_5 rfl rfl ?_
      refine gX1_51 (pc' := 9) h dX1_turbinesAheadOf_6 rfl hF.l0 hF.o rfl ?_
      refine r_icmp_ge (tgt := 30) (pc' := 12) h dX1_turbinesAheadOf_9 (by decide) rfl (fun c0 => ?_) (fun c0 => ?_)
      · have ej := lp_ge (c := fN F) hw.1 (by have := hw.2; omega) h1 c0
        subst ej
        refine r_iload_n (pc' := 31) h dX1_turbinesAheadOf_30 rfl rfl ?_
        refine r_ireturn h hm dX1_turbinesAheadOf_31 (Nat.le_of_ble_eq_true rfl) (Nat.le_of_ble_eq_true rfl) ?_
        exact kI hk (by first | rfl | contradiction | simp [tAo, c0])
      · have hj := lp_lt (c := fN F) hw.1 (by have := hw.2; omega) h1 c0
        refine r_aload_n (pc' := 13) h dX1_turbinesAheadOf_12 rfl rfl ?_
        refine r_iload_n (pc' := 14) h dX1_turbinesAheadOf_13 rfl rfl ?_
        refine r_iload_n (pc' := 15) h dX1_turbinesAheadOf_14 rfl rfl ?_
        refine r_callV2 (pc' := 18) (M := mX1_isTurbineAhead) h hm dX1_turbinesAheadOf_15 rfl lX1_140 vX1_isTurbineAhead rfl hF.l0 hF.o (Nat.le_of_ble_eq_true rfl) (rrb rfl) (kX1_isTurbineAhead hF ?_)
        show AW X G _ _ _ _ _ _ _ _
        refine r_if_eqb (tgt := 24) (pc' := 21) h dX1_turbinesAheadOf_18 (by decide) rfl (fun c1 => ?_) (fun c1 => ?_)
        · refine r_iinc (pc' := 27) (v := 1) h dX1_turbinesAheadOf_24 rfl (by decide) (by decide) rfl rfl ?_
          refine r_goto (tgt := 4) h dX1_turbinesAheadOf_27 (by decide) ?_
          exact aw_cast (by simp [tAo, nI_1, c0, c1]) (ih (j + 1) (by omega) (by omega))
        · refine r_iinc (pc' := 24) (v := 1) h dX1_turbinesAheadOf_21 rfl (by decide) (by decide) rfl rfl ?_
          refine r_iinc (pc' := 27) (v := 1) h dX1_turbinesAheadOf_24 rfl (by decide) (by decide) rfl rfl ?_
          refine r_goto (tgt := 4) h dX1_turbinesAheadOf_27 (by decide) ?_
          exact aw_cast (by simp [tAo, nI_1, c0, c1]) (ih (j + 1) (by omega) (by omega))
  exact loop (fN F + 1) 0 (Nat.zero_le _) (by omega)
theorem kX1_bidsAheadOf {l : Launch} {G : GX} {N : Nat} {S : Nat → va_E} {K : RK} {b : Nat} {F : FM} (hF : isF G N S b F) {t : Int32} (hk : K (.inl (some (.int (bAo F t 24)))) S) : RetK l G N mX1_bidsAheadOf (2, 44, 0, 0) [.ref (ad G b), .int t] S K := by
  refine ret_enter (by decide +kernel) (Nat.le_of_ble_eq_true rfl) (fun X hX h hm => ?_)
  subst hX
  replace h : OK X G N cX1_bidsAheadOf RX1 4 (2, 44, 0, 0) := h
  replace hm : OKm X G N K (some .int) (2, 44, 0, 0) := hm
  show AW X G 4 N 0 [(0, _), (1, _)] [] S 0 0
  refine r_iconst (pc' := 1) (v := 0) h dX1_bidsAheadOf_0 rfl (by decide) ?_
  refine r_istoren (j := 2) (pc' := 2) h rfl dX1_bidsAheadOf_1 rfl (by decide) rfl ?_
  refine r_iconst (pc' := 3) (v := 0) h dX1_bidsAheadOf_2 rfl (by decide) ?_
  refine r_istoren (j := 3) (pc' := 4) h rfl dX1_bidsAheadOf_3 rfl (by decide) rfl ?_
  have loop : ∀ (n j : Nat), j ≤ 24 → 24 - j < n → AW X G 4 N 4 [(0, .ref (ad G b)), (1, .int t), (2, .int (bAo F t j)), (3, .int (nI j))] [] S 0 0 := by
    intro n
    induction n with
    | zero => intro j h1 h2; exact absurd h2 (by omega)
    | succ n ih =>
      intro j h1 h2
      refine r_iload_n (pc' := 5) h dX1_bidsAheadOf_4 rfl rfl ?_
      refine r_bipush (pc' := 7) (v := 24) h dX1_bidsAheadOf_5 rfl (by decide) ?_
      refine r_icmp_ge (tgt := 36) (pc' := 10) h dX1_bidsAheadOf_7 (by decide) rfl (fun c0 => ?_) (fun c0 => ?_)
      · have ej := lp_ge (c := 24) (rfl : (24 : Int32) = nI 24) (by decide) h1 c0
        subst ej
        refine r_iload_n (pc' := 37) h dX1_bidsAheadOf_36 rfl rfl ?_
        refine r_ireturn h hm dX1_bidsAheadOf_37 (Nat.le_of_ble_eq_true rfl) (Nat.le_of_ble_eq_true rfl) ?_
        exact kI hk (by first | rfl | contradiction | simp [bAo, c0])
      · have hj := lp_lt (c := 24) (rfl : (24 : Int32) = nI 24) (by decide) h1 c0
        refine r_aload_n (pc' := 11) h dX1_bidsAheadOf_10 rfl rfl ?_
        refine r_iload_n (pc' := 12) h dX1_bidsAheadOf_11 rfl rfl ?_
        refine r_callV1 (pc' := 15) (M := mX1_isBidFor) h hm dX1_bidsAheadOf_12 rfl lX1_92 vX1_isBidFor rfl hF.l0 hF.o (Nat.le_of_ble_eq_true rfl) (rrb rfl) (kX1_isBidFor hF ?_)
        show AW X G _ _ _ _ _ _ _ _
        refine r_if_eqb (tgt := 30) (pc' := 18) h dX1_bidsAheadOf_15 (by decide) rfl (fun c1 => ?_) (fun c1 => ?_)
        · refine r_iinc (pc' := 33) (v := 1) h dX1_bidsAheadOf_30 rfl (by decide) (by decide) rfl rfl ?_
          refine r_goto (tgt := 4) h dX1_bidsAheadOf_33 (by decide) ?_
          exact aw_cast (by simp [bAo, nI_1, c0, c1]) (ih (j + 1) (by omega) (by omega))
        · refine r_aload_n (pc' := 19) h dX1_bidsAheadOf_18 rfl rfl ?_
          refine r_iload_n (pc' := 20) h dX1_bidsAheadOf_19 rfl rfl ?_
          refine r_iload_n (pc' := 21) h dX1_bidsAheadOf_20 rfl rfl ?_
          refine r_callV2 (pc' := 24) (M := mX1_isBidAhead) h hm dX1_bidsAheadOf_21 rfl lX1_143 vX1_isBidAhead rfl hF.l0 hF.o (Nat.le_of_ble_eq_true rfl) (rrb rfl) (kX1_isBidAhead hF ?_)
          show AW X G _ _ _ _ _ _ _ _
          refine r_if_eqb (tgt := 30) (pc' := 27) h dX1_bidsAheadOf_24 (by decide) rfl (fun c2 => ?_) (fun c2 => ?_)
          · refine r_iinc (pc' := 33) (v := 1) h dX1_bidsAheadOf_30 rfl (by decide) (by decide) rfl rfl ?_
            refine r_goto (tgt := 4) h dX1_bidsAheadOf_33 (by decide) ?_
            exact aw_cast (by simp [bAo, nI_1, c0, c1, c2]) (ih (j + 1) (by omega) (by omega))
          · refine r_iinc (pc' := 30) (v := 1) h dX1_bidsAheadOf_27 rfl (by decide) (by decide) rfl rfl ?_
            refine r_iinc (pc' := 33) (v := 1) h dX1_bidsAheadOf_30 rfl (by decide) (by decide) rfl rfl ?_
            refine r_goto (tgt := 4) h dX1_bidsAheadOf_33 (by decide) ?_
            exact aw_cast (by simp [bAo, nI_1, c0, c1, c2]) (ih (j + 1) (by omega) (by omega))
  exact loop (24 + 1) 0 (Nat.zero_le _) (by omega)
theorem kX1_sumByLines {l : Launch} {G : GX} {N : Nat} {S : Nat → va_E} {K : RK} {b : Nat} {F : FM} (hF : isF G N S b F) (hk : K (.inl (some (.int (bSum F (lCnt F))))) S) : RetK l G N mX1_sumByLines (4, 93, 0, 0) [.ref (ad G b)] S K := by
  refine ret_enter (by decide +kernel) (Nat.le_of_ble_eq_true rfl) (fun X hX h hm => ?_)
  subst hX
  replace h : OK X G N cX1_sumByLines RX1 4 (4, 93, 0, 0) := h
  replace hm : OKm X G N K (some .int) (4, 93, 0, 0) := hm
  show AW X G 4 N 0 [(0, _)] [] S 0 0
  refine r_aload_n (pc' := 1) h dX1_sumByLines_0 rfl rfl ?_
  refine r_callV0 (pc' := 4) (M := mX1_blowsAlongColumns) h hm dX1_sumByLines_1 rfl lX1_127 vX1_blowsAlongColumns rfl hF.l0 hF.o (Nat.le_of_ble_eq_true rfl) (rrb rfl) (kX1_blowsAlongColumns hF ?_)
  show AW X G _ _ _ _ _ _ _ _
  refine r_if_eqb (tgt := 12) (pc' := 7) h dX1_sumByLines_4 (by decide) rfl (fun c0 => ?_) (fun c0 => ?_)
  · refine r_iconst (pc' := 13) (v := 5) h dX1_sumByLines_12 rfl (by decide) ?_
    refine r_istoren (j := 1) (pc' := 14) h rfl dX1_sumByLines_13 rfl (by decide) rfl ?_
    refine r_iconst (pc' := 15) (v := 0) h dX1_sumByLines_14 rfl (by decide) ?_
    refine r_istoren (j := 2) (pc' := 16) h rfl dX1_sumByLines_15 rfl (by decide) rfl ?_
    refine r_iconst (pc' := 17) (v := 0) h dX1_sumByLines_16 rfl (by decide) ?_
    refine r_istoren (j := 3) (pc' := 18) h rfl dX1_sumByLines_17 rfl (by decide) rfl ?_
    have loop : ∀ (n j : Nat), j ≤ lCnt F → lCnt F - j < n → AW X G 4 N 18 [(0, .ref (ad G b)), (1, .int (nI (lCnt F))), (2, .int (bSum F j)), (3, .int (nI j))] [] S 0 0 := by
      intro n
      induction n with
      | zero => intro j h1 h2; exact absurd h2 (by omega)
      | succ n ih =>
        intro j h1 h2
        refine r_iload_n (pc' := 19) h dX1_sumByLines_18 rfl rfl ?_
        refine r_iload_n (pc' := 20) h dX1_sumByLines_19 rfl rfl ?_
        refine r_icmp_ge (tgt := 37) (pc' := 23) h dX1_sumByLines_20 (by decide) rfl (fun c1 => ?_) (fun c1 => ?_)
        · have ej := lp_ge (c := lCnt F) rfl (by unfold lCnt; split <;> decide) h1 c1
          subst ej
          refine r_iload_n (pc' := 38) h dX1_sumByLines_37 rfl rfl ?_
          refine r_ireturn h hm dX1_sumByLines_38 (Nat.le_of_ble_eq_true rfl) (Nat.le_of_ble_eq_true rfl) ?_
          exact kI hk (by first | rfl | contradiction | simp [bSum, c1])
        · have hj := lp_lt (c := lCnt F) rfl (by unfold lCnt; split <;> decide) h1 c1
          refine r_iload_n (pc' := 24) h dX1_sumByLines_23 rfl rfl ?_
          refine r_aload_n (pc' := 25) h dX1_sumByLines_24 rfl rfl ?_
          refine r_iload_n (pc' := 26) h dX1_sumByLines_25 rfl rfl ?_
          refine r_callV1 (pc' := 29) (M := mX1_sumOfLine) h hm dX1_sumByLines_26 rfl lX1_131 vX1_sumOfLine rfl hF.l0 hF.o (Nat.le_of_ble_eq_true rfl) (rrb rfl) (kX1_sumOfLine hF ?_)
          show AW X G _ _ _ _ _ _ _ _
          refine r_iadd (pc' := 30) h dX1_sumByLines_29 rfl ?_
          refine r_istoren (j := 2) (pc' := 31) h rfl dX1_sumByLines_30 rfl (by decide) rfl ?_
          refine r_iinc (pc' := 34) (v := 1) h dX1_sumByLines_31 rfl (by decide) (by decide) rfl rfl ?_
          refine r_goto (tgt := 18) h dX1_sumByLines_34 (by decide) ?_
          exact aw_cast (by simp [bSum, nI_1, c1]) (ih (j + 1) (by omega) (by omega))
    exact aw_cast (by simp [lCnt, bSum, c0]; decide) (loop (lCnt F + 1) 0 (Nat.zero_le _) (by omega))
  · refine r_bipush (pc' := 9) (v := 6) h dX1_sumByLines_7 rfl (by decide) ?_
    refine r_goto (tgt := 13) h dX1_sumByLines_9 (by decide) ?_
    refine r_istoren (j := 1) (pc' := 14) h rfl dX1_sumByLines_13 rfl (by decide) rfl ?_
    refine r_iconst (pc' := 15) (v := 0) h dX1_sumByLines_14 rfl (by decide) ?_
    refine r_istoren (j := 2) (pc' := 16) h rfl dX1_sumByLines_15 rfl (by decide) rfl ?_
    refine r_iconst (pc' := 17) (v := 0) h dX1_sumByLines_16 rfl (by decide) ?_
    refine r_istoren (j := 3) (pc' := 18) h rfl dX1_sumByLines_17 rfl (by decide) rfl ?_
    have loop : ∀ (n j : Nat), j ≤ lCnt F → lCnt F - j < n → AW X G 4 N 18 [(0, .ref (ad G b)), (1, .int (nI (lCnt F))), (2, .int (bSum F j)), (3, .int (nI j))] [] S 0 0 := by
      intro n
      induction n with
      | zero => intro j h1 h2; exact absurd h2 (by omega)
      | succ n ih =>
        intro j h1 h2
        refine r_iload_n (pc' := 19) h dX1_sumByLines_18 rfl rfl ?_
        refine r_iload_n (pc' := 20) h dX1_sumByLines_19 rfl rfl ?_
        refine r_icmp_ge (tgt := 37) (pc' := 23) h dX1_sumByLines_20 (by decide) rfl (fun c2 => ?_) (fun c2 => ?_)
        · have ej := lp_ge (c := lCnt F) rfl (by unfold lCnt; split <;> decide) h1 c2
          subst ej
          refine r_iload_n (pc' := 38) h dX1_sumByLines_37 rfl rfl ?_
          refine r_ireturn h hm dX1_sumByLines_38 (Nat.le_of_ble_eq_true rfl) (Nat.le_of_ble_eq_true rfl) ?_
          exact kI hk (by first | rfl | contradiction | simp [bSum, c2])
        · have hj := lp_lt (c := lCnt F) rfl (by unfold lCnt; split <;> decide) h1 c2
          refine r_iload_n (pc' := 24) h dX1_sumByLines_23 rfl rfl ?_
          refine r_aload_n (pc' := 25) h dX1_sumByLines_24 rfl rfl ?_
          refine r_iload_n (pc' := 26) h dX1_sumByLines_25 rfl rfl ?_
          refine r_callV1 (pc' := 29) (M := mX1_sumOfLine) h hm dX1_sumByLines_26 rfl lX1_131 vX1_sumOfLine rfl hF.l0 hF.o (Nat.le_of_ble_eq_true rfl) (rrb rfl) (kX1_sumOfLine hF ?_)
          show AW X G _ _ _ _ _ _ _ _
          refine r_iadd (pc' := 30) h dX1_sumByLines_29 rfl ?_
          refine r_istoren (j := 2) (pc' := 31) h rfl dX1_sumByLines_30 rfl (by decide) rfl ?_
          refine r_iinc (pc' := 34) (v := 1) h dX1_sumByLines_31 rfl (by decide) (by decide) rfl rfl ?_
          refine r_goto (tgt := 18) h dX1_sumByLines_34 (by decide) ?_
          exact aw_cast (by simp [bSum, nI_1, c2]) (ih (j + 1) (by omega) (by omega))
    exact aw_cast (by simp [lCnt, bSum, c0]; decide) (loop (lCnt F + 1) 0 (Nat.zero_le _) (by omega))
theorem kX1_judgeAdding {l : Launch} {G : GX} {N : Nat} {S : Nat → va_E} {K : RK} {b : Nat} {F : FM} (hF : isF G N S b F) (hw : wF F) {x y z : Int32} (hk : K (.inl (some (.int (jAdd F x y z)))) S) : RetK l G N mX1_judgeAdding (2, 43, 0, 0) [.ref (ad G b), .int x, .int y, .int z] S K := by
  refine ret_enter (by decide +kernel) (Nat.le_of_ble_eq_true rfl) (fun X hX h hm => ?_)
  subst hX
  replace h : OK X G N cX1_judgeAdding RX1 4 (2, 43, 0, 0) := h
  replace hm : OKm X G N K (some .int) (2, 43, 0, 0) := hm
  show AW X G 4 N 0 [(0, _), (1, _), (2, _), (3, _)] [] S 0 0
  refine r_iload_n (pc' := 1) h dX1_judgeAdding_0 rfl rfl ?_
  refine r_iload_n (pc' := 2) h dX1_judgeAdding_1 rfl rfl ?_
  refine r_callSN2 (pc' := 5) (M := mX4_isCell) h hm dX1_judgeAdding_2 rfl lX1_170 vX4_isCell (Nat.le_of_ble_eq_true rfl) (rrb rfl) (kX4_isCell ?_)
  show AW X G _ _ _ _ _ _ _ _
  refine r_if_neb (tgt := 10) (pc' := 8) h dX1_judgeAdding_5 (by decide) rfl (fun c0 => ?_) (fun c0 => ?_)
  · refine r_iload_n (pc' := 11) h dX1_judgeAdding_10 rfl rfl ?_
    refine r_iconst (pc' := 12) (v := 1) h dX1_judgeAdding_11 rfl (by decide) ?_
    refine r_bipush (pc' := 14) (v := 9) h dX1_judgeAdding_12 rfl (by decide) ?_
    refine r_callSN3 (pc' := 17) (M := mX4_isWithin) h hm dX1_judgeAdding_14 rfl lX1_166 vX4_isWithin (Nat.le_of_ble_eq_true rfl) (rrb rfl) (kX4_isWithin ?_)
    show AW X G _ _ _ _ _ _ _ _
    refine r_if_neb (tgt := 23) (pc' := 20) h dX1_judgeAdding_17 (by decide) rfl (fun c1 => ?_) (fun c1 => ?_)
    · refine r_aload_n (pc' := 24) h dX1_judgeAdding_23 rfl rfl ?_
      refine gX1_51 (pc' := 27) h dX1_judgeAdding_24 rfl hF.l0 hF.o rfl ?_
      refine r_bipush (pc' := 29) (v := 12) h dX1_judgeAdding_27 rfl (by decide) ?_
      refine r_icmp_lt (tgt := 34) (pc' := 32) h dX1_judgeAdding_29 (by decide) rfl (fun c2 => ?_) (fun c2 => ?_)
      · refine r_aload_n (pc' := 35) h dX1_judgeAdding_34 rfl rfl ?_
        refine r_iload_n (pc' := 36) h dX1_judgeAdding_35 rfl rfl ?_
        refine r_iload_n (pc' := 37) h dX1_judgeAdding_36 rfl rfl ?_
        refine r_callV2 (pc' := 40) (M := mX1_turbineIn) h hm dX1_judgeAdding_37 rfl lX1_137 vX1_turbineIn rfl hF.l0 hF.o (Nat.le_of_ble_eq_true rfl) (rrb rfl) (kX1_turbineIn hF ?_)
        show AW X G _ _ _ _ _ _ _ _
        refine r_if_lt (tgt := 47) (pc' := 43) h dX1_judgeAdding_40 (by decide) rfl (fun c3 => ?_) (fun c3 => ?_)
        · refine r_iconst (pc' := 48) (v := 0) h dX1_judgeAdding_47 rfl (by decide) ?_
          refine r_ireturn h hm dX1_judgeAdding_48 (Nat.le_of_ble_eq_true rfl) (Nat.le_of_ble_eq_true rfl) ?_
          exact kI hk (by first | rfl | contradiction | simp [jAdd, Int32.not_le, Int32.not_lt, c0, c1, c2, c3])
        · refine r_iconst (pc' := 44) (v := 2) h dX1_judgeAdding_43 rfl (by decide) ?_
          refine r_goto (tgt := 48) h dX1_judgeAdding_44 (by decide) ?_
          refine r_ireturn h hm dX1_judgeAdding_48 (Nat.le_of_ble_eq_true rfl) (Nat.le_of_ble_eq_true rfl) ?_
          exact kI hk (by first | rfl | contradiction | simp [jAdd, Int32.not_le, Int32.not_lt, c0, c1, c2, c3])
      · refine r_iconst (pc' := 33) (v := 1) h dX1_judgeAdding_32 rfl (by decide) ?_
        refine r_ireturn h hm dX1_judgeAdding_33 (Nat.le_of_ble_eq_true rfl) (Nat.le_of_ble_eq_true rfl) ?_
        exact kI hk (by first | rfl | contradiction | simp [jAdd, Int32.not_le, Int32.not_lt, c0, c1, c2])
    · refine r_bipush (pc' := 22) (v := -2) h dX1_judgeAdding_20 rfl (by decide) ?_
      refine r_ireturn h hm dX1_judgeAdding_22 (Nat.le_of_ble_eq_true rfl) (Nat.le_of_ble_eq_true rfl) ?_
      exact kI hk (by first | rfl | contradiction | simp [jAdd, Int32.not_le, Int32.not_lt, c0, c1])
  · refine r_iconst (pc' := 9) (v := -1) h dX1_judgeAdding_8 rfl (by decide) ?_
    refine r_ireturn h hm dX1_judgeAdding_9 (Nat.le_of_ble_eq_true rfl) (Nat.le_of_ble_eq_true rfl) ?_
    exact kI hk (by first | rfl | contradiction | simp [jAdd, Int32.not_le, Int32.not_lt, c0])
theorem kX1_judgeSending {l : Launch} {G : GX} {N : Nat} {S : Nat → va_E} {K : RK} {b : Nat} {F : FM} (hF : isF G N S b F) (hw : wF F) {x y : Int32} (hk : K (.inl (some (.int (jSnd F x y)))) S) : RetK l G N mX1_judgeSending (2, 45, 0, 0) [.ref (ad G b), .int x, .int y] S K := by
  refine ret_enter (by decide +kernel) (Nat.le_of_ble_eq_true rfl) (fun X hX h hm => ?_)
  subst hX
  replace h : OK X G N cX1_judgeSending RX1 3 (2, 45, 0, 0) := h
  replace hm : OKm X G N K (some .int) (2, 45, 0, 0) := hm
  show AW X G 3 N 0 [(0, _), (1, _), (2, _)] [] S 0 0
  refine r_iload_n (pc' := 1) h dX1_judgeSending_0 rfl rfl ?_
  refine r_iconst (pc' := 2) (v := 1) h dX1_judgeSending_1 rfl (by decide) ?_
  refine r_bipush (pc' := 4) (v := 12) h dX1_judgeSending_2 rfl (by decide) ?_
  refine r_callSN3 (pc' := 7) (M := mX4_isWithin) h hm dX1_judgeSending_4 rfl lX1_166 vX4_isWithin (Nat.le_of_ble_eq_true rfl) (rrb rfl) (kX4_isWithin ?_)
  show AW X G _ _ _ _ _ _ _ _
  refine r_if_neb (tgt := 13) (pc' := 10) h dX1_judgeSending_7 (by decide) rfl (fun c0 => ?_) (fun c0 => ?_)
  · refine r_aload_n (pc' := 14) h dX1_judgeSending_13 rfl rfl ?_
    refine r_iload_n (pc' := 15) h dX1_judgeSending_14 rfl rfl ?_
    refine r_iconst (pc' := 16) (v := 2) h dX1_judgeSending_15 rfl (by decide) ?_
    refine r_callV2 (pc' := 19) (M := mX1_isInState) h hm dX1_judgeSending_16 rfl lX1_84 vX1_isInState rfl hF.l0 hF.o (Nat.le_of_ble_eq_true rfl) (rrb rfl) (kX1_isInState hF ?_)
    show AW X G _ _ _ _ _ _ _ _
    refine r_if_neb (tgt := 24) (pc' := 22) h dX1_judgeSending_19 (by decide) rfl (fun c1 => ?_) (fun c1 => ?_)
    · refine r_aload_n (pc' := 25) h dX1_judgeSending_24 rfl rfl ?_
      refine r_iconst (pc' := 26) (v := 3) h dX1_judgeSending_25 rfl (by decide) ?_
      refine r_callV1 (pc' := 29) (M := mX1_countInState) h hm dX1_judgeSending_26 rfl lX1_88 vX1_countInState rfl hF.l0 hF.o (Nat.le_of_ble_eq_true rfl) (rrb rfl) (kX1_countInState hF hw ?_)
      show AW X G _ _ _ _ _ _ _ _
      refine r_iconst (pc' := 30) (v := 2) h dX1_judgeSending_29 rfl (by decide) ?_
      refine r_icmp_ge (tgt := 37) (pc' := 33) h dX1_judgeSending_30 (by decide) rfl (fun c2 => ?_) (fun c2 => ?_)
      · refine r_iconst (pc' := 38) (v := 5) h dX1_judgeSending_37 rfl (by decide) ?_
        refine r_ireturn h hm dX1_judgeSending_38 (Nat.le_of_ble_eq_true rfl) (Nat.le_of_ble_eq_true rfl) ?_
        exact kI hk (by first | rfl | contradiction | simp [jSnd, Int32.not_le, Int32.not_lt, c0, c1, c2])
      · refine r_iconst (pc' := 34) (v := 0) h dX1_judgeSending_33 rfl (by decide) ?_
        refine r_goto (tgt := 38) h dX1_judgeSending_34 (by decide) ?_
        refine r_ireturn h hm dX1_judgeSending_38 (Nat.le_of_ble_eq_true rfl) (Nat.le_of_ble_eq_true rfl) ?_
        exact kI hk (by first | rfl | contradiction | simp [jSnd, Int32.not_le, Int32.not_lt, c0, c1, c2])
    · refine r_iconst (pc' := 23) (v := 4) h dX1_judgeSending_22 rfl (by decide) ?_
      refine r_ireturn h hm dX1_judgeSending_23 (Nat.le_of_ble_eq_true rfl) (Nat.le_of_ble_eq_true rfl) ?_
      exact kI hk (by first | rfl | contradiction | simp [jSnd, Int32.not_le, Int32.not_lt, c0, c1])
  · refine r_bipush (pc' := 12) (v := -2) h dX1_judgeSending_10 rfl (by decide) ?_
    refine r_ireturn h hm dX1_judgeSending_12 (Nat.le_of_ble_eq_true rfl) (Nat.le_of_ble_eq_true rfl) ?_
    exact kI hk (by first | rfl | contradiction | simp [jSnd, Int32.not_le, Int32.not_lt, c0])
theorem kX1_judgeTurbine {l : Launch} {G : GX} {N : Nat} {S : Nat → va_E} {K : RK} {b : Nat} {F : FM} (hF : isF G N S b F) (hw : wF F) {o x y : Int32} (hk : K (.inl (some (.int (jTur F o x y)))) S) : RetK l G N mX1_judgeTurbine (3, 67, 0, 0) [.ref (ad G b), .int o, .int x, .int y] S K := by
  refine ret_enter (by decide +kernel) (Nat.le_of_ble_eq_true rfl) (fun X hX h hm => ?_)
  subst hX
  replace h : OK X G N cX1_judgeTurbine RX1 5 (3, 67, 0, 0) := h
  replace hm : OKm X G N K (some .int) (3, 67, 0, 0) := hm
  show AW X G 5 N 0 [(0, _), (1, _), (2, _), (3, _)] [] S 0 0
  refine r_aload_n (pc' := 1) h dX1_judgeTurbine_0 rfl rfl ?_
  refine r_iload_n (pc' := 2) h dX1_judgeTurbine_1 rfl rfl ?_
  refine r_iconst (pc' := 3) (v := 1) h dX1_judgeTurbine_2 rfl (by decide) ?_
  refine r_callV2 (pc' := 6) (M := mX1_isInState) h hm dX1_judgeTurbine_3 rfl lX1_84 vX1_isInState rfl hF.l0 hF.o (Nat.le_of_ble_eq_true rfl) (rrb rfl) (kX1_isInState hF ?_)
  show AW X G _ _ _ _ _ _ _ _
  refine r_istore (pc' := 8) h dX1_judgeTurbine_6 rfl (by decide) rfl ?_
  refine r_iload_n (pc' := 9) h dX1_judgeTurbine_8 rfl rfl ?_
  refine r_lsw h dX1_judgeTurbine_9 (by decide) (by decide) ?_
  refine ⟨fun e0 => ?_, fun e0 => ?_⟩
  · have e0 := Int32.toInt_inj.mp (e0.trans (by decide : (99 : Int) = Int32.toInt 99))
    show AW X G _ _ 75 _ _ _ _ _
    refine r_iload_n (pc' := 76) h dX1_judgeTurbine_75 rfl rfl ?_
    refine r_iconst (pc' := 77) (v := 0) h dX1_judgeTurbine_76 rfl (by decide) ?_
    refine r_bipush (pc' := 79) (v := 90) h dX1_judgeTurbine_77 rfl (by decide) ?_
    refine r_callSN3 (pc' := 82) (M := mX4_isWithin) h hm dX1_judgeTurbine_79 rfl lX1_166 vX4_isWithin (Nat.le_of_ble_eq_true rfl) (rrb rfl) (kX4_isWithin ?_)
    show AW X G _ _ _ _ _ _ _ _
    refine r_if_neb (tgt := 88) (pc' := 85) h dX1_judgeTurbine_82 (by decide) rfl (fun c1 => ?_) (fun c1 => ?_)
    · refine r_iload (pc' := 90) h dX1_judgeTurbine_88 rfl rfl ?_
      refine r_if_eqb (tgt := 97) (pc' := 93) h dX1_judgeTurbine_90 (by decide) rfl (fun c2 => ?_) (fun c2 => ?_)
      · refine r_iconst (pc' := 98) (v := 3) h dX1_judgeTurbine_97 rfl (by decide) ?_
        refine r_ireturn h hm dX1_judgeTurbine_98 (Nat.le_of_ble_eq_true rfl) (Nat.le_of_ble_eq_true rfl) ?_
        exact kI hk (by first | rfl | contradiction | simp [jTur, e0, c1, c2])
      · refine r_iconst (pc' := 94) (v := 0) h dX1_judgeTurbine_93 rfl (by decide) ?_
        refine r_goto (tgt := 98) h dX1_judgeTurbine_94 (by decide) ?_
        refine r_ireturn h hm dX1_judgeTurbine_98 (Nat.le_of_ble_eq_true rfl) (Nat.le_of_ble_eq_true rfl) ?_
        exact kI hk (by first | rfl | contradiction | simp [jTur, e0, c1, c2])
    · refine r_bipush (pc' := 87) (v := -2) h dX1_judgeTurbine_85 rfl (by decide) ?_
      refine r_ireturn h hm dX1_judgeTurbine_87 (Nat.le_of_ble_eq_true rfl) (Nat.le_of_ble_eq_true rfl) ?_
      exact kI hk (by first | rfl | contradiction | simp [jTur, e0, c1])
  · have e0 : ¬ _ = (99 : Int32) := fun z => e0 ((congrArg Int32.toInt z).trans (by decide : Int32.toInt 99 = (99 : Int)))
    refine ⟨fun e3 => ?_, fun e3 => ?_⟩
    · have e3 := Int32.toInt_inj.mp (e3.trans (by decide : (114 : Int) = Int32.toInt 114))
      show AW X G _ _ 59 _ _ _ _ _
      refine r_aload_n (pc' := 60) h dX1_judgeTurbine_59 rfl rfl ?_
      refine r_iload_n (pc' := 61) h dX1_judgeTurbine_60 rfl rfl ?_
      refine r_iconst (pc' := 62) (v := 3) h dX1_judgeTurbine_61 rfl (by decide) ?_
      refine r_callV2 (pc' := 65) (M := mX1_isInState) h hm dX1_judgeTurbine_62 rfl lX1_84 vX1_isInState rfl hF.l0 hF.o (Nat.le_of_ble_eq_true rfl) (rrb rfl) (kX1_isInState hF ?_)
      show AW X G _ _ _ _ _ _ _ _
      refine r_if_eqb (tgt := 72) (pc' := 68) h dX1_judgeTurbine_65 (by decide) rfl (fun c4 => ?_) (fun c4 => ?_)
      · refine r_bipush (pc' := 74) (v := 6) h dX1_judgeTurbine_72 rfl (by decide) ?_
        refine r_ireturn h hm dX1_judgeTurbine_74 (Nat.le_of_ble_eq_true rfl) (Nat.le_of_ble_eq_true rfl) ?_
        exact kI hk (by first | rfl | contradiction | simp [jTur, e0, e3, c4])
      · refine r_iconst (pc' := 69) (v := 0) h dX1_judgeTurbine_68 rfl (by decide) ?_
        refine r_goto (tgt := 74) h dX1_judgeTurbine_69 (by decide) ?_
        refine r_ireturn h hm dX1_judgeTurbine_74 (Nat.le_of_ble_eq_true rfl) (Nat.le_of_ble_eq_true rfl) ?_
        exact kI hk (by first | rfl | contradiction | simp [jTur, e0, e3, c4])
    · have e3 : ¬ _ = (114 : Int32) := fun z => e3 ((congrArg Int32.toInt z).trans (by decide : Int32.toInt 114 = (114 : Int)))
      refine ⟨fun e5 => ?_, fun e5 => ?_⟩
      · have e5 := Int32.toInt_inj.mp (e5.trans (by decide : (115 : Int) = Int32.toInt 115))
        show AW X G _ _ 52 _ _ _ _ _
        refine r_aload_n (pc' := 53) h dX1_judgeTurbine_52 rfl rfl ?_
        refine r_iload_n (pc' := 54) h dX1_judgeTurbine_53 rfl rfl ?_
        refine r_iload_n (pc' := 55) h dX1_judgeTurbine_54 rfl rfl ?_
        refine r_callV2 (pc' := 58) (M := mX1_judgeSending) h hm dX1_judgeTurbine_55 rfl lX1_173 vX1_judgeSending rfl hF.l0 hF.o (Nat.le_of_ble_eq_true rfl) (rrb rfl) (kX1_judgeSending hF hw ?_)
        show AW X G _ _ _ _ _ _ _ _
        refine r_ireturn h hm dX1_judgeTurbine_58 (Nat.le_of_ble_eq_true rfl) (Nat.le_of_ble_eq_true rfl) ?_
        exact kI hk (by first | rfl | contradiction | simp [jTur, e0, e3, e5])
      · have e5 : ¬ _ = (115 : Int32) := fun z => e5 ((congrArg Int32.toInt z).trans (by decide : Int32.toInt 115 = (115 : Int)))
        refine ⟨fun e6 => ?_, fun e6 => ?_⟩
        · have e6 := Int32.toInt_inj.mp (e6.trans (by decide : (117 : Int) = Int32.toInt 117))
          show AW X G _ _ 99 _ _ _ _ _
          refine r_iload (pc' := 101) h dX1_judgeTurbine_99 rfl rfl ?_
          refine r_if_neb (tgt := 106) (pc' := 104) h dX1_judgeTurbine_101 (by decide) rfl (fun c7 => ?_) (fun c7 => ?_)
          · refine r_aload_n (pc' := 107) h dX1_judgeTurbine_106 rfl rfl ?_
            refine r_iload_n (pc' := 108) h dX1_judgeTurbine_107 rfl rfl ?_
            refine r_callV1 (pc' := 111) (M := mX1_isCurtailed) h hm dX1_judgeTurbine_108 rfl lX1_176 vX1_isCurtailed rfl hF.l0 hF.o (Nat.le_of_ble_eq_true rfl) (rrb rfl) (kX1_isCurtailed hF ?_)
            show AW X G _ _ _ _ _ _ _ _
            refine r_if_eqb (tgt := 118) (pc' := 114) h dX1_judgeTurbine_111 (by decide) rfl (fun c8 => ?_) (fun c8 => ?_)
            · refine r_bipush (pc' := 120) (v := 7) h dX1_judgeTurbine_118 rfl (by decide) ?_
              refine r_ireturn h hm dX1_judgeTurbine_120 (Nat.le_of_ble_eq_true rfl) (Nat.le_of_ble_eq_true rfl) ?_
              exact kI hk (by first | rfl | contradiction | simp [jTur, e0, e3, e5, e6, c7, c8])
            · refine r_iconst (pc' := 115) (v := 0) h dX1_judgeTurbine_114 rfl (by decide) ?_
              refine r_goto (tgt := 120) h dX1_judgeTurbine_115 (by decide) ?_
              refine r_ireturn h hm dX1_judgeTurbine_120 (Nat.le_of_ble_eq_true rfl) (Nat.le_of_ble_eq_true rfl) ?_
              exact kI hk (by first | rfl | contradiction | simp [jTur, e0, e3, e5, e6, c7, c8])
          · refine r_iconst (pc' := 105) (v := 3) h dX1_judgeTurbine_104 rfl (by decide) ?_
            refine r_ireturn h hm dX1_judgeTurbine_105 (Nat.le_of_ble_eq_true rfl) (Nat.le_of_ble_eq_true rfl) ?_
            exact kI hk (by first | rfl | contradiction | simp [jTur, e0, e3, e5, e6, c7])
        · have e6 : ¬ _ = (117 : Int32) := fun z => e6 ((congrArg Int32.toInt z).trans (by decide : Int32.toInt 117 = (117 : Int)))
          show AW X G _ _ 121 _ _ _ _ _
          refine r_iload (pc' := 123) h dX1_judgeTurbine_121 rfl rfl ?_
          refine r_if_eqb (tgt := 130) (pc' := 126) h dX1_judgeTurbine_123 (by decide) rfl (fun c9 => ?_) (fun c9 => ?_)
          · refine r_iconst (pc' := 131) (v := 3) h dX1_judgeTurbine_130 rfl (by decide) ?_
            refine r_ireturn h hm dX1_judgeTurbine_131 (Nat.le_of_ble_eq_true rfl) (Nat.le_of_ble_eq_true rfl) ?_
            exact kI hk (by first | rfl | contradiction | simp [jTur, e0, e3, e5, e6, c9])
          · refine r_iconst (pc' := 127) (v := 0) h dX1_judgeTurbine_126 rfl (by decide) ?_
            refine r_goto (tgt := 131) h dX1_judgeTurbine_127 (by decide) ?_
            refine r_ireturn h hm dX1_judgeTurbine_131 (Nat.le_of_ble_eq_true rfl) (Nat.le_of_ble_eq_true rfl) ?_
            exact kI hk (by first | rfl | contradiction | simp [jTur, e0, e3, e5, e6, c9])
theorem kX1_judgeBid {l : Launch} {G : GX} {N : Nat} {S : Nat → va_E} {K : RK} {b : Nat} {F : FM} (hF : isF G N S b F) {o x y z : Int32} (hk : K (.inl (some (.int (jBid F o x y z)))) S) : RetK l G N mX1_judgeBid (2, 42, 0, 0) [.ref (ad G b), .int o, .int x, .int y, .int z] S K := by
  refine ret_enter (by decide +kernel) (Nat.le_of_ble_eq_true rfl) (fun X hX h hm => ?_)
  subst hX
  replace h : OK X G N cX1_judgeBid RX1 5 (2, 42, 0, 0) := h
  replace hm : OKm X G N K (some .int) (2, 42, 0, 0) := hm
  show AW X G 5 N 0 [(0, _), (1, _), (2, _), (3, _), (4, _)] [] S 0 0
  refine r_iload_n (pc' := 1) h dX1_judgeBid_0 rfl rfl ?_
  refine r_bipush (pc' := 3) (v := 113) h dX1_judgeBid_1 rfl (by decide) ?_
  refine r_icmp_ne (tgt := 21) (pc' := 6) h dX1_judgeBid_3 (by decide) rfl (fun c0 => ?_) (fun c0 => ?_)
  · refine r_iload_n (pc' := 22) h dX1_judgeBid_21 rfl rfl ?_
    refine r_iconst (pc' := 23) (v := 1) h dX1_judgeBid_22 rfl (by decide) ?_
    refine r_bipush (pc' := 25) (v := 50) h dX1_judgeBid_23 rfl (by decide) ?_
    refine r_callSN3 (pc' := 28) (M := mX4_isWithin) h hm dX1_judgeBid_25 rfl lX1_166 vX4_isWithin (Nat.le_of_ble_eq_true rfl) (rrb rfl) (kX4_isWithin ?_)
    show AW X G _ _ _ _ _ _ _ _
    refine r_if_eqb (tgt := 43) (pc' := 31) h dX1_judgeBid_28 (by decide) rfl (fun c1 => ?_) (fun c1 => ?_)
    · refine r_bipush (pc' := 45) (v := -2) h dX1_judgeBid_43 rfl (by decide) ?_
      refine r_ireturn h hm dX1_judgeBid_45 (Nat.le_of_ble_eq_true rfl) (Nat.le_of_ble_eq_true rfl) ?_
      exact kI hk (by first | rfl | contradiction | simp [jBid, c0, c1])
    · refine r_iload (pc' := 33) h dX1_judgeBid_31 rfl rfl ?_
      refine r_iconst (pc' := 34) (v := 1) h dX1_judgeBid_33 rfl (by decide) ?_
      refine r_sipush (pc' := 37) (v := 500) h dX1_judgeBid_34 rfl (by decide) ?_
      refine r_callSN3 (pc' := 40) (M := mX4_isWithin) h hm dX1_judgeBid_37 rfl lX1_166 vX4_isWithin (Nat.le_of_ble_eq_true rfl) (rrb rfl) (kX4_isWithin ?_)
      show AW X G _ _ _ _ _ _ _ _
      refine r_if_neb (tgt := 46) (pc' := 43) h dX1_judgeBid_40 (by decide) rfl (fun c2 => ?_) (fun c2 => ?_)
      · refine r_aload_n (pc' := 47) h dX1_judgeBid_46 rfl rfl ?_
        refine r_iload_n (pc' := 48) h dX1_judgeBid_47 rfl rfl ?_
        refine r_callV1 (pc' := 51) (M := mX1_isBidFor) h hm dX1_judgeBid_48 rfl lX1_92 vX1_isBidFor rfl hF.l0 hF.o (Nat.le_of_ble_eq_true rfl) (rrb rfl) (kX1_isBidFor hF ?_)
        show AW X G _ _ _ _ _ _ _ _
        refine r_if_eqb (tgt := 59) (pc' := 54) h dX1_judgeBid_51 (by decide) rfl (fun c3 => ?_) (fun c3 => ?_)
        · refine r_iconst (pc' := 60) (v := 0) h dX1_judgeBid_59 rfl (by decide) ?_
          refine r_ireturn h hm dX1_judgeBid_60 (Nat.le_of_ble_eq_true rfl) (Nat.le_of_ble_eq_true rfl) ?_
          exact kI hk (by first | rfl | contradiction | simp [jBid, c0, c1, c2, c3])
        · refine r_bipush (pc' := 56) (v := 8) h dX1_judgeBid_54 rfl (by decide) ?_
          refine r_goto (tgt := 60) h dX1_judgeBid_56 (by decide) ?_
          refine r_ireturn h hm dX1_judgeBid_60 (Nat.le_of_ble_eq_true rfl) (Nat.le_of_ble_eq_true rfl) ?_
          exact kI hk (by first | rfl | contradiction | simp [jBid, c0, c1, c2, c3])
      · refine r_bipush (pc' := 45) (v := -2) h dX1_judgeBid_43 rfl (by decide) ?_
        refine r_ireturn h hm dX1_judgeBid_45 (Nat.le_of_ble_eq_true rfl) (Nat.le_of_ble_eq_true rfl) ?_
        exact kI hk (by first | rfl | contradiction | simp [jBid, c0, c1, c2])
  · refine r_aload_n (pc' := 7) h dX1_judgeBid_6 rfl rfl ?_
    refine r_iload_n (pc' := 8) h dX1_judgeBid_7 rfl rfl ?_
    refine r_callV1 (pc' := 11) (M := mX1_isBidFor) h hm dX1_judgeBid_8 rfl lX1_92 vX1_isBidFor rfl hF.l0 hF.o (Nat.le_of_ble_eq_true rfl) (rrb rfl) (kX1_isBidFor hF ?_)
    show AW X G _ _ _ _ _ _ _ _
    refine r_if_eqb (tgt := 18) (pc' := 14) h dX1_judgeBid_11 (by decide) rfl (fun c4 => ?_) (fun c4 => ?_)
    · refine r_bipush (pc' := 20) (v := 9) h dX1_judgeBid_18 rfl (by decide) ?_
      refine r_ireturn h hm dX1_judgeBid_20 (Nat.le_of_ble_eq_true rfl) (Nat.le_of_ble_eq_true rfl) ?_
      exact kI hk (by first | rfl | contradiction | simp [jBid, c0, c4])
    · refine r_iconst (pc' := 15) (v := 0) h dX1_judgeBid_14 rfl (by decide) ?_
      refine r_goto (tgt := 20) h dX1_judgeBid_15 (by decide) ?_
      refine r_ireturn h hm dX1_judgeBid_20 (Nat.le_of_ble_eq_true rfl) (Nat.le_of_ble_eq_true rfl) ?_
      exact kI hk (by first | rfl | contradiction | simp [jBid, c0, c4])
theorem kX1_judge {l : Launch} {G : GX} {N : Nat} {S : Nat → va_E} {K : RK} {b : Nat} {F : FM} (hF : isF G N S b F) (hw : wF F) {o x y z : Int32} (hk : K (.inl (some (.int (jud F o x y z)))) S) : RetK l G N mX1_judge (4, 91, 0, 0) [.ref (ad G b), .int o, .int x, .int y, .int z] S K := by
  refine ret_enter (by decide +kernel) (Nat.le_of_ble_eq_true rfl) (fun X hX h hm => ?_)
  subst hX
  replace h : OK X G N cX1_judge RX1 5 (4, 91, 0, 0) := h
  replace hm : OKm X G N K (some .int) (4, 91, 0, 0) := hm
  show AW X G 5 N 0 [(0, _), (1, _), (2, _), (3, _), (4, _)] [] S 0 0
  refine r_iload_n (pc' := 1) h dX1_judge_0 rfl rfl ?_
  refine r_tsw h dX1_judge_1 [(97, 107), (98, 136), (99, 116), (102, 116), (103, 172), (113, 136), (114, 116), (115, 116), (116, 190), (117, 116), (119, 157)] (by decide) (by decide) (by decide) (by decide) ?_
  refine ⟨fun e0 => ?_, fun e0 => ?_⟩
  · have e0 := Int32.toInt_inj.mp (e0.trans (by decide : (97 : Int) = Int32.toInt 97))
    show AW X G _ _ 108 _ _ _ _ _
    refine r_aload_n (pc' := 109) h dX1_judge_108 rfl rfl ?_
    refine r_iload_n (pc' := 110) h dX1_judge_109 rfl rfl ?_
    refine r_iload_n (pc' := 111) h dX1_judge_110 rfl rfl ?_
    refine r_iload (pc' := 113) h dX1_judge_111 rfl rfl ?_
    refine r_callV3 (pc' := 116) (M := mX1_judgeAdding) h hm dX1_judge_113 rfl lX1_146 vX1_judgeAdding rfl hF.l0 hF.o (Nat.le_of_ble_eq_true rfl) (rrb rfl) (kX1_judgeAdding hF hw ?_)
    show AW X G _ _ _ _ _ _ _ _
    refine r_ireturn h hm dX1_judge_116 (Nat.le_of_ble_eq_true rfl) (Nat.le_of_ble_eq_true rfl) ?_
    exact kI hk (by first | rfl | contradiction | simp [jud, e0])
  · have e0 : ¬ _ = (97 : Int32) := fun z => e0 ((congrArg Int32.toInt z).trans (by decide : Int32.toInt 97 = (97 : Int)))
    refine ⟨fun e1 => ?_, fun e1 => ?_⟩
    · have e1 := Int32.toInt_inj.mp (e1.trans (by decide : (98 : Int) = Int32.toInt 98))
      show AW X G _ _ 137 _ _ _ _ _
      refine r_iload_n (pc' := 138) h dX1_judge_137 rfl rfl ?_
      refine r_callSN1 (pc' := 141) (M := mX4_isHourOfDay) h hm dX1_judge_138 rfl lX1_156 vX4_isHourOfDay (Nat.le_of_ble_eq_true rfl) (rrb rfl) (kX4_isHourOfDay ?_)
      show AW X G _ _ _ _ _ _ _ _
      refine r_if_eqb (tgt := 156) (pc' := 144) h dX1_judge_141 (by decide) rfl (fun c2 => ?_) (fun c2 => ?_)
      · refine r_iconst (pc' := 157) (v := -1) h dX1_judge_156 rfl (by decide) ?_
        refine r_ireturn h hm dX1_judge_157 (Nat.le_of_ble_eq_true rfl) (Nat.le_of_ble_eq_true rfl) ?_
        exact kI hk (by first | rfl | contradiction | simp [jud, e0, e1, c2])
      · refine r_aload_n (pc' := 145) h dX1_judge_144 rfl rfl ?_
        refine r_iload_n (pc' := 146) h dX1_judge_145 rfl rfl ?_
        refine r_iload_n (pc' := 147) h dX1_judge_146 rfl rfl ?_
        refine r_iload_n (pc' := 148) h dX1_judge_147 rfl rfl ?_
        refine r_iload (pc' := 150) h dX1_judge_148 rfl rfl ?_
        refine r_callV4 (pc' := 153) (M := mX1_judgeBid) h hm dX1_judge_150 rfl lX1_159 vX1_judgeBid rfl hF.l0 hF.o (Nat.le_of_ble_eq_true rfl) (rrb rfl) (kX1_judgeBid hF ?_)
        show AW X G _ _ _ _ _ _ _ _
        refine r_goto (tgt := 157) h dX1_judge_153 (by decide) ?_
        refine r_ireturn h hm dX1_judge_157 (Nat.le_of_ble_eq_true rfl) (Nat.le_of_ble_eq_true rfl) ?_
        exact kI hk (by first | rfl | contradiction | simp [jud, e0, e1, c2])
    · have e1 : ¬ _ = (98 : Int32) := fun z => e1 ((congrArg Int32.toInt z).trans (by decide : Int32.toInt 98 = (98 : Int)))
      refine ⟨fun e3 => ?_, fun e3 => ?_⟩
      · have e3 := Int32.toInt_inj.mp (e3.trans (by decide : (99 : Int) = Int32.toInt 99))
        show AW X G _ _ 117 _ _ _ _ _
        refine r_aload_n (pc' := 118) h dX1_judge_117 rfl rfl ?_
        refine r_iload_n (pc' := 119) h dX1_judge_118 rfl rfl ?_
        refine r_callV1 (pc' := 122) (M := mX1_hasTurbine) h hm dX1_judge_119 rfl lX1_149 vX1_hasTurbine rfl hF.l0 hF.o (Nat.le_of_ble_eq_true rfl) (rrb rfl) (kX1_hasTurbine hF ?_)
        show AW X G _ _ _ _ _ _ _ _
        refine r_if_eqb (tgt := 135) (pc' := 125) h dX1_judge_122 (by decide) rfl (fun c4 => ?_) (fun c4 => ?_)
        · refine r_iconst (pc' := 136) (v := -1) h dX1_judge_135 rfl (by decide) ?_
          refine r_ireturn h hm dX1_judge_136 (Nat.le_of_ble_eq_true rfl) (Nat.le_of_ble_eq_true rfl) ?_
          exact kI hk (by first | rfl | contradiction | simp [jud, e0, e1, e3, c4])
        · refine r_aload_n (pc' := 126) h dX1_judge_125 rfl rfl ?_
          refine r_iload_n (pc' := 127) h dX1_judge_126 rfl rfl ?_
          refine r_iload_n (pc' := 128) h dX1_judge_127 rfl rfl ?_
          refine r_iload_n (pc' := 129) h dX1_judge_128 rfl rfl ?_
          refine r_callV3 (pc' := 132) (M := mX1_judgeTurbine) h hm dX1_judge_129 rfl lX1_152 vX1_judgeTurbine rfl hF.l0 hF.o (Nat.le_of_ble_eq_true rfl) (rrb rfl) (kX1_judgeTurbine hF hw ?_)
          show AW X G _ _ _ _ _ _ _ _
          refine r_goto (tgt := 136) h dX1_judge_132 (by decide) ?_
          refine r_ireturn h hm dX1_judge_136 (Nat.le_of_ble_eq_true rfl) (Nat.le_of_ble_eq_true rfl) ?_
          exact kI hk (by first | rfl | contradiction | simp [jud, e0, e1, e3, c4])
      · have e3 : ¬ _ = (99 : Int32) := fun z => e3 ((congrArg Int32.toInt z).trans (by decide : Int32.toInt 99 = (99 : Int)))
        refine ⟨fun e5 => ?_, fun e5 => ?_⟩
        · have e5 := Int32.toInt_inj.mp (e5.trans (by decide : (102 : Int) = Int32.toInt 102))
          show AW X G _ _ 117 _ _ _ _ _
          refine r_aload_n (pc' := 118) h dX1_judge_117 rfl rfl ?_
          refine r_iload_n (pc' := 119) h dX1_judge_118 rfl rfl ?_
          refine r_callV1 (pc' := 122) (M := mX1_hasTurbine) h hm dX1_judge_119 rfl lX1_149 vX1_hasTurbine rfl hF.l0 hF.o (Nat.le_of_ble_eq_true rfl) (rrb rfl) (kX1_hasTurbine hF ?_)
          show AW X G _ _ _ _ _ _ _ _
          refine r_if_eqb (tgt := 135) (pc' := 125) h dX1_judge_122 (by decide) rfl (fun c6 => ?_) (fun c6 => ?_)
          · refine r_iconst (pc' := 136) (v := -1) h dX1_judge_135 rfl (by decide) ?_
            refine r_ireturn h hm dX1_judge_136 (Nat.le_of_ble_eq_true rfl) (Nat.le_of_ble_eq_true rfl) ?_
            exact kI hk (by first | rfl | contradiction | simp [jud, e0, e1, e3, e5, c6])
          · refine r_aload_n (pc' := 126) h dX1_judge_125 rfl rfl ?_
            refine r_iload_n (pc' := 127) h dX1_judge_126 rfl rfl ?_
            refine r_iload_n (pc' := 128) h dX1_judge_127 rfl rfl ?_
            refine r_iload_n (pc' := 129) h dX1_judge_128 rfl rfl ?_
            refine r_callV3 (pc' := 132) (M := mX1_judgeTurbine) h hm dX1_judge_129 rfl lX1_152 vX1_judgeTurbine rfl hF.l0 hF.o (Nat.le_of_ble_eq_true rfl) (rrb rfl) (kX1_judgeTurbine hF hw ?_)
            show AW X G _ _ _ _ _ _ _ _
            refine r_goto (tgt := 136) h dX1_judge_132 (by decide) ?_
            refine r_ireturn h hm dX1_judge_136 (Nat.le_of_ble_eq_true rfl) (Nat.le_of_ble_eq_true rfl) ?_
            exact kI hk (by first | rfl | contradiction | simp [jud, e0, e1, e3, e5, c6])
        · have e5 : ¬ _ = (102 : Int32) := fun z => e5 ((congrArg Int32.toInt z).trans (by decide : Int32.toInt 102 = (102 : Int)))
          refine ⟨fun e7 => ?_, fun e7 => ?_⟩
          · have e7 := Int32.toInt_inj.mp (e7.trans (by decide : (103 : Int) = Int32.toInt 103))
            show AW X G _ _ 173 _ _ _ _ _
            refine r_iload_n (pc' := 174) h dX1_judge_173 rfl rfl ?_
            refine r_iconst (pc' := 175) (v := 0) h dX1_judge_174 rfl (by decide) ?_
            refine r_sipush (pc' := 178) (v := 999) h dX1_judge_175 rfl (by decide) ?_
            refine r_callSN3 (pc' := 181) (M := mX4_isWithin) h hm dX1_judge_178 rfl lX1_166 vX4_isWithin (Nat.le_of_ble_eq_true rfl) (rrb rfl) (kX4_isWithin ?_)
            show AW X G _ _ _ _ _ _ _ _
            refine r_if_eqb (tgt := 188) (pc' := 184) h dX1_judge_181 (by decide) rfl (fun c8 => ?_) (fun c8 => ?_)
            · refine r_bipush (pc' := 190) (v := -2) h dX1_judge_188 rfl (by decide) ?_
              refine r_ireturn h hm dX1_judge_190 (Nat.le_of_ble_eq_true rfl) (Nat.le_of_ble_eq_true rfl) ?_
              exact kI hk (by first | rfl | contradiction | simp [jud, e0, e1, e3, e5, e7, c8])
            · refine r_iconst (pc' := 185) (v := 0) h dX1_judge_184 rfl (by decide) ?_
              refine r_goto (tgt := 190) h dX1_judge_185 (by decide) ?_
              refine r_ireturn h hm dX1_judge_190 (Nat.le_of_ble_eq_true rfl) (Nat.le_of_ble_eq_true rfl) ?_
              exact kI hk (by first | rfl | contradiction | simp [jud, e0, e1, e3, e5, e7, c8])
          · have e7 : ¬ _ = (103 : Int32) := fun z => e7 ((congrArg Int32.toInt z).trans (by decide : Int32.toInt 103 = (103 : Int)))
            refine ⟨fun e9 => ?_, fun e9 => ?_⟩
            · have e9 := Int32.toInt_inj.mp (e9.trans (by decide : (113 : Int) = Int32.toInt 113))
              show AW X G _ _ 137 _ _ _ _ _
              refine r_iload_n (pc' := 138) h dX1_judge_137 rfl rfl ?_
              refine r_callSN1 (pc' := 141) (M := mX4_isHourOfDay) h hm dX1_judge_138 rfl lX1_156 vX4_isHourOfDay (Nat.le_of_ble_eq_true rfl) (rrb rfl) (kX4_isHourOfDay ?_)
              show AW X G _ _ _ _ _ _ _ _
              refine r_if_eqb (tgt := 156) (pc' := 144) h dX1_judge_141 (by decide) rfl (fun c10 => ?_) (fun c10 => ?_)
              · refine r_iconst (pc' := 157) (v := -1) h dX1_judge_156 rfl (by decide) ?_
                refine r_ireturn h hm dX1_judge_157 (Nat.le_of_ble_eq_true rfl) (Nat.le_of_ble_eq_true rfl) ?_
                exact kI hk (by first | rfl | contradiction | simp [jud, e0, e1, e3, e5, e7, e9, c10])
              · refine r_aload_n (pc' := 145) h dX1_judge_144 rfl rfl ?_
                refine r_iload_n (pc' := 146) h dX1_judge_145 rfl rfl ?_
                refine r_iload_n (pc' := 147) h dX1_judge_146 rfl rfl ?_
                refine r_iload_n (pc' := 148) h dX1_judge_147 rfl rfl ?_
                refine r_iload (pc' := 150) h dX1_judge_148 rfl rfl ?_
                refine r_callV4 (pc' := 153) (M := mX1_judgeBid) h hm dX1_judge_150 rfl lX1_159 vX1_judgeBid rfl hF.l0 hF.o (Nat.le_of_ble_eq_true rfl) (rrb rfl) (kX1_judgeBid hF ?_)
                show AW X G _ _ _ _ _ _ _ _
                refine r_goto (tgt := 157) h dX1_judge_153 (by decide) ?_
                refine r_ireturn h hm dX1_judge_157 (Nat.le_of_ble_eq_true rfl) (Nat.le_of_ble_eq_true rfl) ?_
                exact kI hk (by first | rfl | contradiction | simp [jud, e0, e1, e3, e5, e7, e9, c10])
            · have e9 : ¬ _ = (113 : Int32) := fun z => e9 ((congrArg Int32.toInt z).trans (by decide : Int32.toInt 113 = (113 : Int)))
              refine ⟨fun e11 => ?_, fun e11 => ?_⟩
              · have e11 := Int32.toInt_inj.mp (e11.trans (by decide : (114 : Int) = Int32.toInt 114))
                show AW X G _ _ 117 _ _ _ _ _
                refine r_aload_n (pc' := 118) h dX1_judge_117 rfl rfl ?_
                refine r_iload_n (pc' := 119) h dX1_judge_118 rfl rfl ?_
                refine r_callV1 (pc' := 122) (M := mX1_hasTurbine) h hm dX1_judge_119 rfl lX1_149 vX1_hasTurbine rfl hF.l0 hF.o (Nat.le_of_ble_eq_true rfl) (rrb rfl) (kX1_hasTurbine hF ?_)
                show AW X G _ _ _ _ _ _ _ _
                refine r_if_eqb (tgt := 135) (pc' := 125) h dX1_judge_122 (by decide) rfl (fun c12 => ?_) (fun c12 => ?_)
                · refine r_iconst (pc' := 136) (v := -1) h dX1_judge_135 rfl (by decide) ?_
                  refine r_ireturn h hm dX1_judge_136 (Nat.le_of_ble_eq_true rfl) (Nat.le_of_ble_eq_true rfl) ?_
                  exact kI hk (by first | rfl | contradiction | simp [jud, e0, e1, e3, e5, e7, e9, e11, c12])
                · refine r_aload_n (pc' := 126) h dX1_judge_125 rfl rfl ?_
                  refine r_iload_n (pc' := 127) h dX1_judge_126 rfl rfl ?_
                  refine r_iload_n (pc' := 128) h dX1_judge_127 rfl rfl ?_
                  refine r_iload_n (pc' := 129) h dX1_judge_128 rfl rfl ?_
                  refine r_callV3 (pc' := 132) (M := mX1_judgeTurbine) h hm dX1_judge_129 rfl lX1_152 vX1_judgeTurbine rfl hF.l0 hF.o (Nat.le_of_ble_eq_true rfl) (rrb rfl) (kX1_judgeTurbine hF hw ?_)
                  show AW X G _ _ _ _ _ _ _ _
                  refine r_goto (tgt := 136) h dX1_judge_132 (by decide) ?_
                  refine r_ireturn h hm dX1_judge_136 (Nat.le_of_ble_eq_true rfl) (Nat.le_of_ble_eq_true rfl) ?_
                  exact kI hk (by first | rfl | contradiction | simp [jud, e0, e1, e3, e5, e7, e9, e11, c12])
              · have e11 : ¬ _ = (114 : Int32) := fun z => e11 ((congrArg Int32.toInt z).trans (by decide : Int32.toInt 114 = (114 : Int)))
                refine ⟨fun e13 => ?_, fun e13 => ?_⟩
                · have e13 := Int32.toInt_inj.mp (e13.trans (by decide : (115 : Int) = Int32.toInt 115))
                  show AW X G _ _ 117 _ _ _ _ _
                  refine r_aload_n (pc' := 118) h dX1_judge_117 rfl rfl ?_
                  refine r_iload_n (pc' := 119) h dX1_judge_118 rfl rfl ?_
                  refine r_callV1 (pc' := 122) (M := mX1_hasTurbine) h hm dX1_judge_119 rfl lX1_149 vX1_hasTurbine rfl hF.l0 hF.o (Nat.le_of_ble_eq_true rfl) (rrb rfl) (kX1_hasTurbine hF ?_)
                  show AW X G _ _ _ _ _ _ _ _
                  refine r_if_eqb (tgt := 135) (pc' := 125) h dX1_judge_122 (by decide) rfl (fun c14 => ?_) (fun c14 => ?_)
                  · refine r_iconst (pc' := 136) (v := -1) h dX1_judge_135 rfl (by decide) ?_
                    refine r_ireturn h hm dX1_judge_136 (Nat.le_of_ble_eq_true rfl) (Nat.le_of_ble_eq_true rfl) ?_
                    exact kI hk (by first | rfl | contradiction | simp [jud, e0, e1, e3, e5, e7, e9, e11, e13, c14])
                  · refine r_aload_n (pc' := 126) h dX1_judge_125 rfl rfl ?_
                    refine r_iload_n (pc' := 127) h dX1_judge_126 rfl rfl ?_
                    refine r_iload_n (pc' := 128) h dX1_judge_127 rfl rfl ?_
                    refine r_iload_n (pc' := 129) h dX1_judge_128 rfl rfl ?_
                    refine r_callV3 (pc' := 132) (M := mX1_judgeTurbine) h hm dX1_judge_129 rfl lX1_152 vX1_judgeTurbine rfl hF.l0 hF.o (Nat.le_of_ble_eq_true rfl) (rrb rfl) (kX1_judgeTurbine hF hw ?_)
                    show AW X G _ _ _ _ _ _ _ _
                    refine r_goto (tgt := 136) h dX1_judge_132 (by decide) ?_
                    refine r_ireturn h hm dX1_judge_136 (Nat.le_of_ble_eq_true rfl) (Nat.le_of_ble_eq_true rfl) ?_
                    exact kI hk (by first | rfl | contradiction | simp [jud, e0, e1, e3, e5, e7, e9, e11, e13, c14])
                · have e13 : ¬ _ = (115 : Int32) := fun z => e13 ((congrArg Int32.toInt z).trans (by decide : Int32.toInt 115 = (115 : Int)))
                  refine ⟨fun e15 => ?_, fun e15 => ?_⟩
                  · have e15 := Int32.toInt_inj.mp (e15.trans (by decide : (116 : Int) = Int32.toInt 116))
                    show AW X G _ _ 191 _ _ _ _ _
                    refine r_iload_n (pc' := 192) h dX1_judge_191 rfl rfl ?_
                    refine r_iconst (pc' := 193) (v := 1) h dX1_judge_192 rfl (by decide) ?_
                    refine r_bipush (pc' := 195) (v := 48) h dX1_judge_193 rfl (by decide) ?_
                    refine r_callSN3 (pc' := 198) (M := mX4_isWithin) h hm dX1_judge_195 rfl lX1_166 vX4_isWithin (Nat.le_of_ble_eq_true rfl) (rrb rfl) (kX4_isWithin ?_)
                    show AW X G _ _ _ _ _ _ _ _
                    refine r_if_eqb (tgt := 205) (pc' := 201) h dX1_judge_198 (by decide) rfl (fun c16 => ?_) (fun c16 => ?_)
                    · refine r_bipush (pc' := 207) (v := -2) h dX1_judge_205 rfl (by decide) ?_
                      refine r_ireturn h hm dX1_judge_207 (Nat.le_of_ble_eq_true rfl) (Nat.le_of_ble_eq_true rfl) ?_
                      exact kI hk (by first | rfl | contradiction | simp [jud, e0, e1, e3, e5, e7, e9, e11, e13, e15, c16])
                    · refine r_iconst (pc' := 202) (v := 0) h dX1_judge_201 rfl (by decide) ?_
                      refine r_goto (tgt := 207) h dX1_judge_202 (by decide) ?_
                      refine r_ireturn h hm dX1_judge_207 (Nat.le_of_ble_eq_true rfl) (Nat.le_of_ble_eq_true rfl) ?_
                      exact kI hk (by first | rfl | contradiction | simp [jud, e0, e1, e3, e5, e7, e9, e11, e13, e15, c16])
                  · have e15 : ¬ _ = (116 : Int32) := fun z => e15 ((congrArg Int32.toInt z).trans (by decide : Int32.toInt 116 = (116 : Int)))
                    refine ⟨fun e17 => ?_, fun e17 => ?_⟩
                    · have e17 := Int32.toInt_inj.mp (e17.trans (by decide : (117 : Int) = Int32.toInt 117))
                      show AW X G _ _ 117 _ _ _ _ _
                      refine r_aload_n (pc' := 118) h dX1_judge_117 rfl rfl ?_
                      refine r_iload_n (pc' := 119) h dX1_judge_118 rfl rfl ?_
                      refine r_callV1 (pc' := 122) (M := mX1_hasTurbine) h hm dX1_judge_119 rfl lX1_149 vX1_hasTurbine rfl hF.l0 hF.o (Nat.le_of_ble_eq_true rfl) (rrb rfl) (kX1_hasTurbine hF ?_)
                      show AW X G _ _ _ _ _ _ _ _
                      refine r_if_eqb (tgt := 135) (pc' := 125) h dX1_judge_122 (by decide) rfl (fun c18 => ?_) (fun c18 => ?_)
                      · refine r_iconst (pc' := 136) (v := -1) h dX1_judge_135 rfl (by decide) ?_
                        refine r_ireturn h hm dX1_judge_136 (Nat.le_of_ble_eq_true rfl) (Nat.le_of_ble_eq_true rfl) ?_
                        exact kI hk (by first | rfl | contradiction | simp [jud, e0, e1, e3, e5, e7, e9, e11, e13, e15, e17, c18])
                      · refine r_aload_n (pc' := 126) h dX1_judge_125 rfl rfl ?_
                        refine r_iload_n (pc' := 127) h dX1_judge_126 rfl rfl ?_
                        refine r_iload_n (pc' := 128) h dX1_judge_127 rfl rfl ?_
                        refine r_iload_n (pc' := 129) h dX1_judge_128 rfl rfl ?_
                        refine r_callV3 (pc' := 132) (M := mX1_judgeTurbine) h hm dX1_judge_129 rfl lX1_152 vX1_judgeTurbine rfl hF.l0 hF.o (Nat.le_of_ble_eq_true rfl) (rrb rfl) (kX1_judgeTurbine hF hw ?_)
                        show AW X G _ _ _ _ _ _ _ _
                        refine r_goto (tgt := 136) h dX1_judge_132 (by decide) ?_
                        refine r_ireturn h hm dX1_judge_136 (Nat.le_of_ble_eq_true rfl) (Nat.le_of_ble_eq_true rfl) ?_
                        exact kI hk (by first | rfl | contradiction | simp [jud, e0, e1, e3, e5, e7, e9, e11, e13, e15, e17, c18])
                    · have e17 : ¬ _ = (117 : Int32) := fun z => e17 ((congrArg Int32.toInt z).trans (by decide : Int32.toInt 117 = (117 : Int)))
                      refine ⟨fun e19 => ?_, fun e19 => ?_⟩
                      · have e19 := Int32.toInt_inj.mp (e19.trans (by decide : (119 : Int) = Int32.toInt 119))
                        show AW X G _ _ 158 _ _ _ _ _
                        refine r_iload_n (pc' := 159) h dX1_judge_158 rfl rfl ?_
                        refine r_iload_n (pc' := 160) h dX1_judge_159 rfl rfl ?_
                        refine r_callSN2 (pc' := 163) (M := mX4_isWind) h hm dX1_judge_160 rfl lX1_163 vX4_isWind (Nat.le_of_ble_eq_true rfl) (rrb rfl) (kX4_isWind ?_)
                        show AW X G _ _ _ _ _ _ _ _
                        refine r_if_eqb (tgt := 170) (pc' := 166) h dX1_judge_163 (by decide) rfl (fun c20 => ?_) (fun c20 => ?_)
                        · refine r_bipush (pc' := 172) (v := -2) h dX1_judge_170 rfl (by decide) ?_
                          refine r_ireturn h hm dX1_judge_172 (Nat.le_of_ble_eq_true rfl) (Nat.le_of_ble_eq_true rfl) ?_
                          exact kI hk (by first | rfl | contradiction | simp [jud, e0, e1, e3, e5, e7, e9, e11, e13, e15, e17, e19, c20])
                        · refine r_iconst (pc' := 167) (v := 0) h dX1_judge_166 rfl (by decide) ?_
                          refine r_goto (tgt := 172) h dX1_judge_167 (by decide) ?_
                          refine r_ireturn h hm dX1_judge_172 (Nat.le_of_ble_eq_true rfl) (Nat.le_of_ble_eq_true rfl) ?_
                          exact kI hk (by first | rfl | contradiction | simp [jud, e0, e1, e3, e5, e7, e9, e11, e13, e15, e17, e19, c20])
                      · have e19 : ¬ _ = (119 : Int32) := fun z => e19 ((congrArg Int32.toInt z).trans (by decide : Int32.toInt 119 = (119 : Int)))
                        show AW X G _ _ 208 _ _ _ _ _
                        refine r_iconst (pc' := 209) (v := 0) h dX1_judge_208 rfl (by decide) ?_
                        refine r_ireturn h hm dX1_judge_209 (Nat.le_of_ble_eq_true rfl) (Nat.le_of_ble_eq_true rfl) ?_
                        exact kI hk (by first | rfl | contradiction | simp [jud, e0, e1, e3, e5, e7, e9, e11, e13, e15, e17, e19])
theorem kX1_detailOf {l : Launch} {G : GX} {N : Nat} {S : Nat → va_E} {K : RK} {b : Nat} {F : FM} (hF : isF G N S b F) (hw : wF F) {o x y : Int32} (hk : K (.inl (some (.int (det F o x y)))) S) : RetK l G N mX1_detailOf (3, 71, 0, 0) [.ref (ad G b), .int o, .int x, .int y] S K := by
  refine ret_enter (by decide +kernel) (Nat.le_of_ble_eq_true rfl) (fun X hX h hm => ?_)
  subst hX
  replace h : OK X G N cX1_detailOf RX1 4 (3, 71, 0, 0) := h
  replace hm : OKm X G N K (some .int) (3, 71, 0, 0) := hm
  show AW X G 4 N 0 [(0, _), (1, _), (2, _), (3, _)] [] S 0 0
  refine r_iload_n (pc' := 1) h dX1_detailOf_0 rfl rfl ?_
  refine r_tsw h dX1_detailOf_1 [(1, 51), (2, 54), (3, 61), (5, 70), (8, 75), (9, 84)] (by decide) (by decide) (by decide) (by decide) ?_
  refine ⟨fun e0 => ?_, fun e0 => ?_⟩
  · have e0 := Int32.toInt_inj.mp (e0.trans (by decide : (1 : Int) = Int32.toInt 1))
    show AW X G _ _ 52 _ _ _ _ _
    refine r_bipush (pc' := 54) (v := 12) h dX1_detailOf_52 rfl (by decide) ?_
    refine r_ireturn h hm dX1_detailOf_54 (Nat.le_of_ble_eq_true rfl) (Nat.le_of_ble_eq_true rfl) ?_
    exact kI hk (by first | rfl | contradiction | simp [det, e0])
  · have e0 : ¬ _ = (1 : Int32) := fun z => e0 ((congrArg Int32.toInt z).trans (by decide : Int32.toInt 1 = (1 : Int)))
    refine ⟨fun e1 => ?_, fun e1 => ?_⟩
    · have e1 := Int32.toInt_inj.mp (e1.trans (by decide : (2 : Int) = Int32.toInt 2))
      show AW X G _ _ 55 _ _ _ _ _
      refine r_aload_n (pc' := 56) h dX1_detailOf_55 rfl rfl ?_
      refine r_iload_n (pc' := 57) h dX1_detailOf_56 rfl rfl ?_
      refine r_iload_n (pc' := 58) h dX1_detailOf_57 rfl rfl ?_
      refine r_callV2 (pc' := 61) (M := mX1_turbineIn) h hm dX1_detailOf_58 rfl lX1_137 vX1_turbineIn rfl hF.l0 hF.o (Nat.le_of_ble_eq_true rfl) (rrb rfl) (kX1_turbineIn hF ?_)
      show AW X G _ _ _ _ _ _ _ _
      refine r_ireturn h hm dX1_detailOf_61 (Nat.le_of_ble_eq_true rfl) (Nat.le_of_ble_eq_true rfl) ?_
      exact kI hk (by first | rfl | contradiction | simp [det, e0, e1])
    · have e1 : ¬ _ = (2 : Int32) := fun z => e1 ((congrArg Int32.toInt z).trans (by decide : Int32.toInt 2 = (2 : Int)))
      refine ⟨fun e2 => ?_, fun e2 => ?_⟩
      · have e2 := Int32.toInt_inj.mp (e2.trans (by decide : (3 : Int) = Int32.toInt 3))
        show AW X G _ _ 62 _ _ _ _ _
        refine r_aload_n (pc' := 63) h dX1_detailOf_62 rfl rfl ?_
        refine gX1_27 (pc' := 66) h dX1_detailOf_63 rfl hF.l0 hF.o rfl ?_
        refine r_iload_n (pc' := 67) h dX1_detailOf_66 rfl rfl ?_
        refine r_callSN2 (pc' := 70) (M := mX4_valueAt) h hm dX1_detailOf_67 rfl lX1_80 vX4_valueAt (Nat.le_of_ble_eq_true rfl) (rrb rfl) (kX4_valueAt hF.l6 hF.r6 (by decide) ?_)
        show AW X G _ _ _ _ _ _ _ _
        refine r_ireturn h hm dX1_detailOf_70 (Nat.le_of_ble_eq_true rfl) (Nat.le_of_ble_eq_true rfl) ?_
        exact kI hk (by first | rfl | contradiction | simp [det, e0, e1, e2])
      · have e2 : ¬ _ = (3 : Int32) := fun z => e2 ((congrArg Int32.toInt z).trans (by decide : Int32.toInt 3 = (3 : Int)))
        refine ⟨fun e3 => ?_, fun e3 => ?_⟩
        · have e3 := Int32.toInt_inj.mp (e3.trans (by decide : (5 : Int) = Int32.toInt 5))
          show AW X G _ _ 71 _ _ _ _ _
          refine r_aload_n (pc' := 72) h dX1_detailOf_71 rfl rfl ?_
          refine r_callV0 (pc' := 75) (M := mX1_firstInService) h hm dX1_detailOf_72 rfl lX1_179 vX1_firstInService rfl hF.l0 hF.o (Nat.le_of_ble_eq_true rfl) (rrb rfl) (kX1_firstInService hF hw ?_)
          show AW X G _ _ _ _ _ _ _ _
          refine r_ireturn h hm dX1_detailOf_75 (Nat.le_of_ble_eq_true rfl) (Nat.le_of_ble_eq_true rfl) ?_
          exact kI hk (by first | rfl | contradiction | simp [det, e0, e1, e2, e3])
        · have e3 : ¬ _ = (5 : Int32) := fun z => e3 ((congrArg Int32.toInt z).trans (by decide : Int32.toInt 5 = (5 : Int)))
          refine ⟨fun e4 => ?_, fun e4 => ?_⟩
          · have e4 := Int32.toInt_inj.mp (e4.trans (by decide : (8 : Int) = Int32.toInt 8))
            show AW X G _ _ 76 _ _ _ _ _
            refine r_aload_n (pc' := 77) h dX1_detailOf_76 rfl rfl ?_
            refine gX1_33 (pc' := 80) h dX1_detailOf_77 rfl hF.l0 hF.o rfl ?_
            refine r_iload_n (pc' := 81) h dX1_detailOf_80 rfl rfl ?_
            refine r_callSN2 (pc' := 84) (M := mX4_valueAt) h hm dX1_detailOf_81 rfl lX1_80 vX4_valueAt (Nat.le_of_ble_eq_true rfl) (rrb rfl) (kX4_valueAt hF.l8 hF.r8 (by decide) ?_)
            show AW X G _ _ _ _ _ _ _ _
            refine r_ireturn h hm dX1_detailOf_84 (Nat.le_of_ble_eq_true rfl) (Nat.le_of_ble_eq_true rfl) ?_
            exact kI hk (by first | rfl | contradiction | simp [det, e0, e1, e2, e3, e4])
          · have e4 : ¬ _ = (8 : Int32) := fun z => e4 ((congrArg Int32.toInt z).trans (by decide : Int32.toInt 8 = (8 : Int)))
            refine ⟨fun e5 => ?_, fun e5 => ?_⟩
            · have e5 := Int32.toInt_inj.mp (e5.trans (by decide : (9 : Int) = Int32.toInt 9))
              show AW X G _ _ 85 _ _ _ _ _
              refine r_aload_n (pc' := 86) h dX1_detailOf_85 rfl rfl ?_
              refine r_callV0 (pc' := 89) (M := mX1_countBids) h hm dX1_detailOf_86 rfl lX1_183 vX1_countBids rfl hF.l0 hF.o (Nat.le_of_ble_eq_true rfl) (rrb rfl) (kX1_countBids hF ?_)
              show AW X G _ _ _ _ _ _ _ _
              refine r_ireturn h hm dX1_detailOf_89 (Nat.le_of_ble_eq_true rfl) (Nat.le_of_ble_eq_true rfl) ?_
              exact kI hk (by first | rfl | contradiction | simp [det, e0, e1, e2, e3, e4, e5])
            · have e5 : ¬ _ = (9 : Int32) := fun z => e5 ((congrArg Int32.toInt z).trans (by decide : Int32.toInt 9 = (9 : Int)))
              show AW X G _ _ 90 _ _ _ _ _
              refine r_aload_n (pc' := 91) h dX1_detailOf_90 rfl rfl ?_
              refine r_iload_n (pc' := 92) h dX1_detailOf_91 rfl rfl ?_
              refine r_aload_n (pc' := 93) h dX1_detailOf_92 rfl rfl ?_
              refine gX1_39 (pc' := 96) h dX1_detailOf_93 rfl hF.l0 hF.o rfl ?_
              refine r_aload_n (pc' := 97) h dX1_detailOf_96 rfl rfl ?_
              refine gX1_54 (pc' := 100) h dX1_detailOf_97 rfl hF.l0 hF.o rfl ?_
              refine r_callV3 (pc' := 103) (M := mX1_outputIn) h hm dX1_detailOf_100 rfl lX1_123 vX1_outputIn rfl hF.l0 hF.o (Nat.le_of_ble_eq_true rfl) (rrb rfl) (kX1_outputIn hF ?_)
              show AW X G _ _ _ _ _ _ _ _
              refine r_ireturn h hm dX1_detailOf_103 (Nat.le_of_ble_eq_true rfl) (Nat.le_of_ble_eq_true rfl) ?_
              exact kI hk (by first | rfl | contradiction | simp [det, e0, e1, e2, e3, e4, e5])
theorem kX1_add {l : Launch} {G : GX} {N : Nat} {S : Nat → va_E} {K : RK} {b : Nat} {F : FM} (hF : isF G N S b F) {x y z : Int32} (hk : ∀ S1, isF G N S1 b (fAdd F x y z) → FR b S S1 → K (.inl (some (.int (fI F 0)))) S1) : RetK l G N mX1_add (1, 22, 0, 0) [.ref (ad G b), .int x, .int y, .int z] S K := by
  refine ret_enter (by decide +kernel) (Nat.le_of_ble_eq_true rfl) (fun X hX h hm => ?_)
  subst hX
  replace h : OK X G N cX1_add RX1 5 (1, 22, 0, 0) := h
  replace hm : OKm X G N K (some .int) (1, 22, 0, 0) := hm
  show AW X G 5 N 0 [(0, _), (1, _), (2, _), (3, _)] [] S 0 0
  refine r_aload_n (pc' := 1) h dX1_add_0 rfl rfl ?_
  refine gX1_51 (pc' := 4) h dX1_add_1 rfl hF.l0 hF.o rfl ?_
  refine r_istore (pc' := 6) h dX1_add_4 rfl (by decide) rfl ?_
  refine r_aload_n (pc' := 7) h dX1_add_6 rfl rfl ?_
  refine gX1_11 (pc' := 10) h dX1_add_7 rfl hF.l0 hF.o rfl ?_
  refine r_iload (pc' := 12) h dX1_add_10 rfl rfl ?_
  refine r_iload_n (pc' := 13) h dX1_add_12 rfl rfl ?_
  refine r_callSN3 (pc' := 16) (M := mX4_setValue) h hm dX1_add_13 rfl lX1_226 vX4_setValue (Nat.le_of_ble_eq_true rfl) (rrb rfl) (kX4_setValue hF.l1 hF.r1 (by decide) ?_)
  show AW X G _ _ _ _ _ _ _ _
  refine wA0 hF (fun S1 hF1 hR1 => ?_)
  refine r_aload_n (pc' := 17) h dX1_add_16 rfl rfl ?_
  refine gX1_15 (pc' := 20) h dX1_add_17 rfl hF1.l0 hF1.o rfl ?_
  refine r_iload (pc' := 22) h dX1_add_20 rfl rfl ?_
  refine r_iload_n (pc' := 23) h dX1_add_22 rfl rfl ?_
  refine r_callSN3 (pc' := 26) (M := mX4_setValue) h hm dX1_add_23 rfl lX1_226 vX4_setValue (Nat.le_of_ble_eq_true rfl) (rrb rfl) (kX4_setValue hF1.l2 hF1.r2 (by decide) ?_)
  show AW X G _ _ _ _ _ _ _ _
  refine wA1 hF1 (fun S2 hF2 hR2 => ?_)
  refine r_aload_n (pc' := 27) h dX1_add_26 rfl rfl ?_
  refine gX1_18 (pc' := 30) h dX1_add_27 rfl hF2.l0 hF2.o rfl ?_
  refine r_iload (pc' := 32) h dX1_add_30 rfl rfl ?_
  refine r_iload_n (pc' := 33) h dX1_add_32 rfl rfl ?_
  refine r_callSN3 (pc' := 36) (M := mX4_setValue) h hm dX1_add_33 rfl lX1_226 vX4_setValue (Nat.le_of_ble_eq_true rfl) (rrb rfl) (kX4_setValue hF2.l3 hF2.r3 (by decide) ?_)
  show AW X G _ _ _ _ _ _ _ _
  refine wA2 hF2 (fun S3 hF3 hR3 => ?_)
  refine r_aload_n (pc' := 37) h dX1_add_36 rfl rfl ?_
  refine gX1_21 (pc' := 40) h dX1_add_37 rfl hF3.l0 hF3.o rfl ?_
  refine r_iload (pc' := 42) h dX1_add_40 rfl rfl ?_
  refine r_iconst (pc' := 43) (v := 1) h dX1_add_42 rfl (by decide) ?_
  refine r_callSN3 (pc' := 46) (M := mX4_setValue) h hm dX1_add_43 rfl lX1_226 vX4_setValue (Nat.le_of_ble_eq_true rfl) (rrb rfl) (kX4_setValue hF3.l4 hF3.r4 (by decide) ?_)
  show AW X G _ _ _ _ _ _ _ _
  refine wA3 hF3 (fun S4 hF4 hR4 => ?_)
  refine r_aload_n (pc' := 47) h dX1_add_46 rfl rfl ?_
  refine gX1_24 (pc' := 50) h dX1_add_47 rfl hF4.l0 hF4.o rfl ?_
  refine r_iload (pc' := 52) h dX1_add_50 rfl rfl ?_
  refine r_iconst (pc' := 53) (v := -1) h dX1_add_52 rfl (by decide) ?_
  refine r_callSN3 (pc' := 56) (M := mX4_setValue) h hm dX1_add_53 rfl lX1_226 vX4_setValue (Nat.le_of_ble_eq_true rfl) (rrb rfl) (kX4_setValue hF4.l5 hF4.r5 (by decide) ?_)
  show AW X G _ _ _ _ _ _ _ _
  refine wA4 hF4 (fun S5 hF5 hR5 => ?_)
  refine r_aload_n (pc' := 57) h dX1_add_56 rfl rfl ?_
  refine gX1_30 (pc' := 60) h dX1_add_57 rfl hF5.l0 hF5.o rfl ?_
  refine r_iload_n (pc' := 61) h dX1_add_60 rfl rfl ?_
  refine r_iload_n (pc' := 62) h dX1_add_61 rfl rfl ?_
  refine r_callS2 (pc' := 65) (M := mX1_placeOf) h hm dX1_add_62 rfl lX1_76 vX1_placeOf (Nat.le_of_ble_eq_true rfl) (rrb rfl) (kX1_placeOf ?_)
  show AW X G _ _ _ _ _ _ _ _
  refine r_iload (pc' := 67) h dX1_add_65 rfl rfl ?_
  refine r_iconst (pc' := 68) (v := 1) h dX1_add_67 rfl (by decide) ?_
  refine r_iadd (pc' := 69) h dX1_add_68 rfl ?_
  refine r_callSN3 (pc' := 72) (M := mX4_setValue) h hm dX1_add_69 rfl lX1_226 vX4_setValue (Nat.le_of_ble_eq_true rfl) (rrb rfl) (kX4_setValue hF5.l7 hF5.r7 (by decide) ?_)
  show AW X G _ _ _ _ _ _ _ _
  refine wA6 hF5 (fun S6 hF6 hR6 => ?_)
  refine r_aload_n (pc' := 73) h dX1_add_72 rfl rfl ?_
  refine r_dup (pc' := 74) h dX1_add_73 rfl rfl ?_
  refine gX1_51 (pc' := 77) h dX1_add_74 rfl hF6.l0 hF6.o rfl ?_
  refine r_iconst (pc' := 78) (v := 1) h dX1_add_77 rfl (by decide) ?_
  refine r_iadd (pc' := 79) h dX1_add_78 rfl ?_
  refine pX1_51 (pc' := 82) h dX1_add_79 rfl hF6.l0 hF6.o (Nat.le_of_ble_eq_true rfl) ?_
  refine wI0 hF6 (fun S7 hF7 hR7 => ?_)
  refine r_iload (pc' := 84) h dX1_add_82 rfl rfl ?_
  refine r_ireturn h hm dX1_add_84 (Nat.le_of_ble_eq_true rfl) (Nat.le_of_ble_eq_true rfl) ?_
  exact kI (hk _ hF7 ((((((hR1.trans hR2).trans hR3).trans hR4).trans hR5).trans hR6).trans hR7)) (by first | rfl | contradiction | simp [])
theorem kX1_breakDown {l : Launch} {G : GX} {N : Nat} {S : Nat → va_E} {K : RK} {b : Nat} {F : FM} (hF : isF G N S b F) (hw : wF F) {t : Int32} (hk : ∀ S1, isF G N S1 b (fBrk F t) → FR b S S1 → K (.inl (some (.int (fI F 0 - cSt (fBrk F t) 1 (fN F))))) S1) : RetK l G N mX1_breakDown (2, 45, 0, 0) [.ref (ad G b), .int t] S K := by
  refine ret_enter (by decide +kernel) (Nat.le_of_ble_eq_true rfl) (fun X hX h hm => ?_)
  subst hX
  replace h : OK X G N cX1_breakDown RX1 2 (2, 45, 0, 0) := h
  replace hm : OKm X G N K (some .int) (2, 45, 0, 0) := hm
  show AW X G 2 N 0 [(0, _), (1, _)] [] S 0 0
  refine r_aload_n (pc' := 1) h dX1_breakDown_0 rfl rfl ?_
  refine gX1_21 (pc' := 4) h dX1_breakDown_1 rfl hF.l0 hF.o rfl ?_
  refine r_iload_n (pc' := 5) h dX1_breakDown_4 rfl rfl ?_
  refine r_iconst (pc' := 6) (v := 2) h dX1_breakDown_5 rfl (by decide) ?_
  refine r_callSN3 (pc' := 9) (M := mX4_setValue) h hm dX1_breakDown_6 rfl lX1_226 vX4_setValue (Nat.le_of_ble_eq_true rfl) (rrb rfl) (kX4_setValue hF.l4 hF.r4 (by decide) ?_)
  show AW X G _ _ _ _ _ _ _ _
  refine wA3 hF (fun S1 hF1 hR1 => ?_)
  refine r_aload_n (pc' := 10) h dX1_breakDown_9 rfl rfl ?_
  refine gX1_24 (pc' := 13) h dX1_breakDown_10 rfl hF1.l0 hF1.o rfl ?_
  refine r_iload_n (pc' := 14) h dX1_breakDown_13 rfl rfl ?_
  refine r_iconst (pc' := 15) (v := -1) h dX1_breakDown_14 rfl (by decide) ?_
  refine r_callSN3 (pc' := 18) (M := mX4_setValue) h hm dX1_breakDown_15 rfl lX1_226 vX4_setValue (Nat.le_of_ble_eq_true rfl) (rrb rfl) (kX4_setValue hF1.l5 hF1.r5 (by decide) ?_)
  show AW X G _ _ _ _ _ _ _ _
  refine wA4 hF1 (fun S2 hF2 hR2 => ?_)
  refine r_aload_n (pc' := 19) h dX1_breakDown_18 rfl rfl ?_
  refine gX1_51 (pc' := 22) h dX1_breakDown_19 rfl hF2.l0 hF2.o rfl ?_
  refine r_aload_n (pc' := 23) h dX1_breakDown_22 rfl rfl ?_
  refine r_iconst (pc' := 24) (v := 1) h dX1_breakDown_23 rfl (by decide) ?_
  refine r_callV1 (pc' := 27) (M := mX1_countInState) h hm dX1_breakDown_24 rfl lX1_88 vX1_countInState rfl hF2.l0 hF2.o (Nat.le_of_ble_eq_true rfl) (rrb rfl) (kX1_countInState hF2 hw ?_)
  show AW X G _ _ _ _ _ _ _ _
  refine r_isub (pc' := 28) h dX1_breakDown_27 rfl ?_
  refine r_ireturn h hm dX1_breakDown_28 (Nat.le_of_ble_eq_true rfl) (Nat.le_of_ble_eq_true rfl) ?_
  exact kI (hk _ hF2 (hR1.trans hR2)) (by first | rfl | contradiction | simp [])
theorem kX1_startService {l : Launch} {G : GX} {N : Nat} {S : Nat → va_E} {K : RK} {b : Nat} {F : FM} (hF : isF G N S b F) (hw : wF F) {t x : Int32} (hk : ∀ S1, isF G N S1 b (fSta F t x) → FR b S S1 → K (.inl (some (.int (crews (fSta F t x))))) S1) : RetK l G N mX1_startService (3, 65, 0, 0) [.ref (ad G b), .int t, .int x] S K := by
  refine ret_enter (by decide +kernel) (Nat.le_of_ble_eq_true rfl) (fun X hX h hm => ?_)
  subst hX
  replace h : OK X G N cX1_startService RX1 3 (3, 65, 0, 0) := h
  replace hm : OKm X G N K (some .int) (3, 65, 0, 0) := hm
  show AW X G 3 N 0 [(0, _), (1, _), (2, _)] [] S 0 0
  refine r_aload_n (pc' := 1) h dX1_startService_0 rfl rfl ?_
  refine gX1_21 (pc' := 4) h dX1_startService_1 rfl hF.l0 hF.o rfl ?_
  refine r_iload_n (pc' := 5) h dX1_startService_4 rfl rfl ?_
  refine r_iconst (pc' := 6) (v := 3) h dX1_startService_5 rfl (by decide) ?_
  refine r_callSN3 (pc' := 9) (M := mX4_setValue) h hm dX1_startService_6 rfl lX1_226 vX4_setValue (Nat.le_of_ble_eq_true rfl) (rrb rfl) (kX4_setValue hF.l4 hF.r4 (by decide) ?_)
  show AW X G _ _ _ _ _ _ _ _
  refine wA3 hF (fun S1 hF1 hR1 => ?_)
  refine r_aload_n (pc' := 10) h dX1_startService_9 rfl rfl ?_
  refine gX1_27 (pc' := 13) h dX1_startService_10 rfl hF1.l0 hF1.o rfl ?_
  refine r_iload_n (pc' := 14) h dX1_startService_13 rfl rfl ?_
  refine r_iload_n (pc' := 15) h dX1_startService_14 rfl rfl ?_
  refine r_callSN3 (pc' := 18) (M := mX4_setValue) h hm dX1_startService_15 rfl lX1_226 vX4_setValue (Nat.le_of_ble_eq_true rfl) (rrb rfl) (kX4_setValue hF1.l6 hF1.r6 (by decide) ?_)
  show AW X G _ _ _ _ _ _ _ _
  refine wA5 hF1 (fun S2 hF2 hR2 => ?_)
  refine r_aload_n (pc' := 19) h dX1_startService_18 rfl rfl ?_
  refine r_callV0 (pc' := 22) (M := mX1_crewsLeft) h hm dX1_startService_19 rfl lX1_230 vX1_crewsLeft rfl hF2.l0 hF2.o (Nat.le_of_ble_eq_true rfl) (rrb rfl) (kX1_crewsLeft hF2 hw ?_)
  show AW X G _ _ _ _ _ _ _ _
  refine r_ireturn h hm dX1_startService_22 (Nat.le_of_ble_eq_true rfl) (Nat.le_of_ble_eq_true rfl) ?_
  exact kI (hk _ hF2 (hR1.trans hR2)) (by first | rfl | contradiction | simp [])
theorem kX1_stopService {l : Launch} {G : GX} {N : Nat} {S : Nat → va_E} {K : RK} {b : Nat} {F : FM} (hF : isF G N S b F) {t : Int32} (hk : ∀ S1, isF G N S1 b (fSto F t) → FR b S S1 → K (.inl (some (.int (vAt 12 (fA F 5) t)))) S1) : RetK l G N mX1_stopService (1, 22, 0, 0) [.ref (ad G b), .int t] S K := by
  refine ret_enter (by decide +kernel) (Nat.le_of_ble_eq_true rfl) (fun X hX h hm => ?_)
  subst hX
  replace h : OK X G N cX1_stopService RX1 3 (1, 22, 0, 0) := h
  replace hm : OKm X G N K (some .int) (1, 22, 0, 0) := hm
  show AW X G 3 N 0 [(0, _), (1, _)] [] S 0 0
  refine r_aload_n (pc' := 1) h dX1_stopService_0 rfl rfl ?_
  refine gX1_27 (pc' := 4) h dX1_stopService_1 rfl hF.l0 hF.o rfl ?_
  refine r_iload_n (pc' := 5) h dX1_stopService_4 rfl rfl ?_
  refine r_callSN2 (pc' := 8) (M := mX4_valueAt) h hm dX1_stopService_5 rfl lX1_80 vX4_valueAt (Nat.le_of_ble_eq_true rfl) (rrb rfl) (kX4_valueAt hF.l6 hF.r6 (by decide) ?_)
  show AW X G _ _ _ _ _ _ _ _
  refine r_istoren (j := 2) (pc' := 9) h rfl dX1_stopService_8 rfl (by decide) rfl ?_
  refine r_aload_n (pc' := 10) h dX1_stopService_9 rfl rfl ?_
  refine gX1_21 (pc' := 13) h dX1_stopService_10 rfl hF.l0 hF.o rfl ?_
  refine r_iload_n (pc' := 14) h dX1_stopService_13 rfl rfl ?_
  refine r_iconst (pc' := 15) (v := 2) h dX1_stopService_14 rfl (by decide) ?_
  refine r_callSN3 (pc' := 18) (M := mX4_setValue) h hm dX1_stopService_15 rfl lX1_226 vX4_setValue (Nat.le_of_ble_eq_true rfl) (rrb rfl) (kX4_setValue hF.l4 hF.r4 (by decide) ?_)
  show AW X G _ _ _ _ _ _ _ _
  refine wA3 hF (fun S1 hF1 hR1 => ?_)
  refine r_aload_n (pc' := 19) h dX1_stopService_18 rfl rfl ?_
  refine gX1_27 (pc' := 22) h dX1_stopService_19 rfl hF1.l0 hF1.o rfl ?_
  refine r_iload_n (pc' := 23) h dX1_stopService_22 rfl rfl ?_
  refine r_iconst (pc' := 24) (v := 0) h dX1_stopService_23 rfl (by decide) ?_
  refine r_callSN3 (pc' := 27) (M := mX4_setValue) h hm dX1_stopService_24 rfl lX1_226 vX4_setValue (Nat.le_of_ble_eq_true rfl) (rrb rfl) (kX4_setValue hF1.l6 hF1.r6 (by decide) ?_)
  show AW X G _ _ _ _ _ _ _ _
  refine wA5 hF1 (fun S2 hF2 hR2 => ?_)
  refine r_iload_n (pc' := 28) h dX1_stopService_27 rfl rfl ?_
  refine r_ireturn h hm dX1_stopService_28 (Nat.le_of_ble_eq_true rfl) (Nat.le_of_ble_eq_true rfl) ?_
  exact kI (hk _ hF2 (hR1.trans hR2)) (by first | rfl | contradiction | simp [])
theorem kX1_changeLimit {l : Launch} {G : GX} {N : Nat} {S : Nat → va_E} {K : RK} {b : Nat} {F : FM} (hF : isF G N S b F) {t x : Int32} (hk : ∀ S1, isF G N S1 b (fChg F t x) → FR b S S1 → K (.inl (some (.int (outp (fChg F t x) t (fI F 1) (fI F 2))))) S1) : RetK l G N mX1_changeLimit (3, 71, 0, 0) [.ref (ad G b), .int t, .int x] S K := by
  refine ret_enter (by decide +kernel) (Nat.le_of_ble_eq_true rfl) (fun X hX h hm => ?_)
  subst hX
  replace h : OK X G N cX1_changeLimit RX1 3 (3, 71, 0, 0) := h
  replace hm : OKm X G N K (some .int) (3, 71, 0, 0) := hm
  show AW X G 3 N 0 [(0, _), (1, _), (2, _)] [] S 0 0
  refine r_aload_n (pc' := 1) h dX1_changeLimit_0 rfl rfl ?_
  refine gX1_24 (pc' := 4) h dX1_changeLimit_1 rfl hF.l0 hF.o rfl ?_
  refine r_iload_n (pc' := 5) h dX1_changeLimit_4 rfl rfl ?_
  refine r_iload_n (pc' := 6) h dX1_changeLimit_5 rfl rfl ?_
  refine r_callSN3 (pc' := 9) (M := mX4_setValue) h hm dX1_changeLimit_6 rfl lX1_226 vX4_setValue (Nat.le_of_ble_eq_true rfl) (rrb rfl) (kX4_setValue hF.l5 hF.r5 (by decide) ?_)
  show AW X G _ _ _ _ _ _ _ _
  refine wA4 hF (fun S1 hF1 hR1 => ?_)
  refine r_aload_n (pc' := 10) h dX1_changeLimit_9 rfl rfl ?_
  refine r_iload_n (pc' := 11) h dX1_changeLimit_10 rfl rfl ?_
  refine r_aload_n (pc' := 12) h dX1_changeLimit_11 rfl rfl ?_
  refine gX1_39 (pc' := 15) h dX1_changeLimit_12 rfl hF1.l0 hF1.o rfl ?_
  refine r_aload_n (pc' := 16) h dX1_changeLimit_15 rfl rfl ?_
  refine gX1_54 (pc' := 19) h dX1_changeLimit_16 rfl hF1.l0 hF1.o rfl ?_
  refine r_callV3 (pc' := 22) (M := mX1_outputIn) h hm dX1_changeLimit_19 rfl lX1_123 vX1_outputIn rfl hF1.l0 hF1.o (Nat.le_of_ble_eq_true rfl) (rrb rfl) (kX1_outputIn hF1 ?_)
  show AW X G _ _ _ _ _ _ _ _
  refine r_ireturn h hm dX1_changeLimit_22 (Nat.le_of_ble_eq_true rfl) (Nat.le_of_ble_eq_true rfl) ?_
  exact kI (hk _ hF1 hR1) (by first | rfl | contradiction | simp [])
theorem kX1_endLimit {l : Launch} {G : GX} {N : Nat} {S : Nat → va_E} {K : RK} {b : Nat} {F : FM} (hF : isF G N S b F) {t : Int32} (hk : ∀ S1, isF G N S1 b (fChg F t (-1)) → FR b S S1 → K (.inl (some (.int (outp (fChg F t (-1)) t (fI F 1) (fI F 2))))) S1) : RetK l G N mX1_endLimit (4, 93, 0, 0) [.ref (ad G b), .int t] S K := by
  refine ret_enter (by decide +kernel) (Nat.le_of_ble_eq_true rfl) (fun X hX h hm => ?_)
  subst hX
  replace h : OK X G N cX1_endLimit RX1 2 (4, 93, 0, 0) := h
  replace hm : OKm X G N K (some .int) (4, 93, 0, 0) := hm
  show AW X G 2 N 0 [(0, _), (1, _)] [] S 0 0
  refine r_aload_n (pc' := 1) h dX1_endLimit_0 rfl rfl ?_
  refine r_iload_n (pc' := 2) h dX1_endLimit_1 rfl rfl ?_
  refine r_iconst (pc' := 3) (v := -1) h dX1_endLimit_2 rfl (by decide) ?_
  refine r_callV2 (pc' := 6) (M := mX1_changeLimit) h hm dX1_endLimit_3 rfl lX1_198 vX1_changeLimit rfl hF.l0 hF.o (Nat.le_of_ble_eq_true rfl) (rrb rfl) (kX1_changeLimit hF (fun S1 hF1 hR1 => ?_))
  show AW X G _ _ _ _ _ _ _ _
  refine r_ireturn h hm dX1_endLimit_6 (Nat.le_of_ble_eq_true rfl) (Nat.le_of_ble_eq_true rfl) ?_
  exact kI (hk _ hF1 hR1) (by first | rfl | contradiction | simp [])
theorem kX1_turnWind {l : Launch} {G : GX} {N : Nat} {S : Nat → va_E} {K : RK} {b : Nat} {F : FM} (hF : isF G N S b F) (hw : wF F) {d x : Int32} (hd : isCh d) (hk : ∀ S1, isF G N S1 b (fWnd F d x) → FR b S S1 → K (.inl (some (.int (sumI (fWnd F d x) d x (fN F))))) S1) : RetK l G N mX1_turnWind (4, 95, 0, 0) [.ref (ad G b), .int d, .int x] S K := by
  refine ret_enter (by decide +kernel) (Nat.le_of_ble_eq_true rfl) (fun X hX h hm => ?_)
  subst hX
  replace h : OK X G N cX1_turnWind RX1 3 (4, 95, 0, 0) := h
  replace hm : OKm X G N K (some .int) (4, 95, 0, 0) := hm
  show AW X G 3 N 0 [(0, _), (1, _), (2, _)] [] S 0 0
  refine r_aload_n (pc' := 1) h dX1_turnWind_0 rfl rfl ?_
  refine r_iload_n (pc' := 2) h dX1_turnWind_1 rfl rfl ?_
  refine pX1_39 (pc' := 5) h dX1_turnWind_2 rfl hF.l0 hF.o (Nat.le_of_ble_eq_true rfl) hd.1 hd.2 ?_
  refine wI1 hF (fun S1 hF1 hR1 => ?_)
  refine r_aload_n (pc' := 6) h dX1_turnWind_5 rfl rfl ?_
  refine r_iload_n (pc' := 7) h dX1_turnWind_6 rfl rfl ?_
  refine pX1_54 (pc' := 10) h dX1_turnWind_7 rfl hF1.l0 hF1.o (Nat.le_of_ble_eq_true rfl) ?_
  refine wI2 hF1 (fun S2 hF2 hR2 => ?_)
  refine r_aload_n (pc' := 11) h dX1_turnWind_10 rfl rfl ?_
  refine r_iload_n (pc' := 12) h dX1_turnWind_11 rfl rfl ?_
  refine r_iload_n (pc' := 13) h dX1_turnWind_12 rfl rfl ?_
  refine r_callV2 (pc' := 16) (M := mX1_sumIn) h hm dX1_turnWind_13 rfl lX1_233 vX1_sumIn rfl hF2.l0 hF2.o (Nat.le_of_ble_eq_true rfl) (rrb rfl) (kX1_sumIn hF2 hw ?_)
  show AW X G _ _ _ _ _ _ _ _
  refine r_ireturn h hm dX1_turnWind_16 (Nat.le_of_ble_eq_true rfl) (Nat.le_of_ble_eq_true rfl) ?_
  exact kI (hk _ hF2 (hR1.trans hR2)) (by first | rfl | contradiction | simp [])
theorem kX1_changeGridLimit {l : Launch} {G : GX} {N : Nat} {S : Nat → va_E} {K : RK} {b : Nat} {F : FM} (hF : isF G N S b F) {x : Int32} (hk : ∀ S1, isF G N S1 b (sI F 3 x) → FR b S S1 → K (.inl (some (.int (fI F 3)))) S1) : RetK l G N mX1_changeGridLimit (0, 0, 0, 0) [.ref (ad G b), .int x] S K := by
  refine ret_enter (by decide +kernel) (Nat.le_of_ble_eq_true rfl) (fun X hX h hm => ?_)
  subst hX
  replace h : OK X G N cX1_changeGridLimit RX1 3 (0, 0, 0, 0) := h
  replace hm : OKm X G N K (some .int) (0, 0, 0, 0) := hm
  show AW X G 3 N 0 [(0, _), (1, _)] [] S 0 0
  refine r_aload_n (pc' := 1) h dX1_changeGridLimit_0 rfl rfl ?_
  refine gX1_43 (pc' := 4) h dX1_changeGridLimit_1 rfl hF.l0 hF.o rfl ?_
  refine r_istoren (j := 2) (pc' := 5) h rfl dX1_changeGridLimit_4 rfl (by decide) rfl ?_
  refine r_aload_n (pc' := 6) h dX1_changeGridLimit_5 rfl rfl ?_
  refine r_iload_n (pc' := 7) h dX1_changeGridLimit_6 rfl rfl ?_
  refine pX1_43 (pc' := 10) h dX1_changeGridLimit_7 rfl hF.l0 hF.o (Nat.le_of_ble_eq_true rfl) ?_
  refine wI3 hF (fun S1 hF1 hR1 => ?_)
  refine r_iload_n (pc' := 11) h dX1_changeGridLimit_10 rfl rfl ?_
  refine r_ireturn h hm dX1_changeGridLimit_11 (Nat.le_of_ble_eq_true rfl) (Nat.le_of_ble_eq_true rfl) ?_
  exact kI (hk _ hF1 hR1) (by first | rfl | contradiction | simp [])
theorem kX1_addBid {l : Launch} {G : GX} {N : Nat} {S : Nat → va_E} {K : RK} {b : Nat} {F : FM} (hF : isF G N S b F) {x y z : Int32} (hk : ∀ S1, isF G N S1 b (fBid F x y z) → FR b S S1 → K (.inl (some (.int (cBd (fBid F x y z) 24)))) S1) : RetK l G N mX1_addBid (3, 64, 0, 0) [.ref (ad G b), .int x, .int y, .int z] S K := by
  refine ret_enter (by decide +kernel) (Nat.le_of_ble_eq_true rfl) (fun X hX h hm => ?_)
  subst hX
  replace h : OK X G N cX1_addBid RX1 4 (3, 64, 0, 0) := h
  replace hm : OKm X G N K (some .int) (3, 64, 0, 0) := hm
  show AW X G 4 N 0 [(0, _), (1, _), (2, _), (3, _)] [] S 0 0
  refine r_aload_n (pc' := 1) h dX1_addBid_0 rfl rfl ?_
  refine gX1_33 (pc' := 4) h dX1_addBid_1 rfl hF.l0 hF.o rfl ?_
  refine r_iload_n (pc' := 5) h dX1_addBid_4 rfl rfl ?_
  refine r_iload_n (pc' := 6) h dX1_addBid_5 rfl rfl ?_
  refine r_callSN3 (pc' := 9) (M := mX4_setValue) h hm dX1_addBid_6 rfl lX1_226 vX4_setValue (Nat.le_of_ble_eq_true rfl) (rrb rfl) (kX4_setValue hF.l8 hF.r8 (by decide) ?_)
  show AW X G _ _ _ _ _ _ _ _
  refine wA7 hF (fun S1 hF1 hR1 => ?_)
  refine r_aload_n (pc' := 10) h dX1_addBid_9 rfl rfl ?_
  refine gX1_36 (pc' := 13) h dX1_addBid_10 rfl hF1.l0 hF1.o rfl ?_
  refine r_iload_n (pc' := 14) h dX1_addBid_13 rfl rfl ?_
  refine r_iload_n (pc' := 15) h dX1_addBid_14 rfl rfl ?_
  refine r_callSN3 (pc' := 18) (M := mX4_setValue) h hm dX1_addBid_15 rfl lX1_226 vX4_setValue (Nat.le_of_ble_eq_true rfl) (rrb rfl) (kX4_setValue hF1.l9 hF1.r9 (by decide) ?_)
  show AW X G _ _ _ _ _ _ _ _
  refine wA8 hF1 (fun S2 hF2 hR2 => ?_)
  refine r_aload_n (pc' := 19) h dX1_addBid_18 rfl rfl ?_
  refine r_callV0 (pc' := 22) (M := mX1_countBids) h hm dX1_addBid_19 rfl lX1_183 vX1_countBids rfl hF2.l0 hF2.o (Nat.le_of_ble_eq_true rfl) (rrb rfl) (kX1_countBids hF2 ?_)
  show AW X G _ _ _ _ _ _ _ _
  refine r_ireturn h hm dX1_addBid_22 (Nat.le_of_ble_eq_true rfl) (Nat.le_of_ble_eq_true rfl) ?_
  exact kI (hk _ hF2 (hR1.trans hR2)) (by first | rfl | contradiction | simp [])
theorem kX1_removeBid {l : Launch} {G : GX} {N : Nat} {S : Nat → va_E} {K : RK} {b : Nat} {F : FM} (hF : isF G N S b F) {x : Int32} (hk : ∀ S1, isF G N S1 b (fUnb F x) → FR b S S1 → K (.inl (some (.int (vAt 24 (fA F 8) x)))) S1) : RetK l G N mX1_removeBid (1, 22, 0, 0) [.ref (ad G b), .int x] S K := by
  refine ret_enter (by decide +kernel) (Nat.le_of_ble_eq_true rfl) (fun X hX h hm => ?_)
  subst hX
  replace h : OK X G N cX1_removeBid RX1 3 (1, 22, 0, 0) := h
  replace hm : OKm X G N K (some .int) (1, 22, 0, 0) := hm
  show AW X G 3 N 0 [(0, _), (1, _)] [] S 0 0
  refine r_aload_n (pc' := 1) h dX1_removeBid_0 rfl rfl ?_
  refine gX1_36 (pc' := 4) h dX1_removeBid_1 rfl hF.l0 hF.o rfl ?_
  refine r_iload_n (pc' := 5) h dX1_removeBid_4 rfl rfl ?_
  refine r_callSN2 (pc' := 8) (M := mX4_valueAt) h hm dX1_removeBid_5 rfl lX1_80 vX4_valueAt (Nat.le_of_ble_eq_true rfl) (rrb rfl) (kX4_valueAt hF.l9 hF.r9 (by decide) ?_)
  show AW X G _ _ _ _ _ _ _ _
  refine r_istoren (j := 2) (pc' := 9) h rfl dX1_removeBid_8 rfl (by decide) rfl ?_
  refine r_aload_n (pc' := 10) h dX1_removeBid_9 rfl rfl ?_
  refine gX1_33 (pc' := 13) h dX1_removeBid_10 rfl hF.l0 hF.o rfl ?_
  refine r_iload_n (pc' := 14) h dX1_removeBid_13 rfl rfl ?_
  refine r_iconst (pc' := 15) (v := 0) h dX1_removeBid_14 rfl (by decide) ?_
  refine r_callSN3 (pc' := 18) (M := mX4_setValue) h hm dX1_removeBid_15 rfl lX1_226 vX4_setValue (Nat.le_of_ble_eq_true rfl) (rrb rfl) (kX4_setValue hF.l8 hF.r8 (by decide) ?_)
  show AW X G _ _ _ _ _ _ _ _
  refine wA7 hF (fun S1 hF1 hR1 => ?_)
  refine r_aload_n (pc' := 19) h dX1_removeBid_18 rfl rfl ?_
  refine gX1_36 (pc' := 22) h dX1_removeBid_19 rfl hF1.l0 hF1.o rfl ?_
  refine r_iload_n (pc' := 23) h dX1_removeBid_22 rfl rfl ?_
  refine r_iconst (pc' := 24) (v := 0) h dX1_removeBid_23 rfl (by decide) ?_
  refine r_callSN3 (pc' := 27) (M := mX4_setValue) h hm dX1_removeBid_24 rfl lX1_226 vX4_setValue (Nat.le_of_ble_eq_true rfl) (rrb rfl) (kX4_setValue hF1.l9 hF1.r9 (by decide) ?_)
  show AW X G _ _ _ _ _ _ _ _
  refine wA8 hF1 (fun S2 hF2 hR2 => ?_)
  refine r_iload_n (pc' := 28) h dX1_removeBid_27 rfl rfl ?_
  refine r_ireturn h hm dX1_removeBid_28 (Nat.le_of_ble_eq_true rfl) (Nat.le_of_ble_eq_true rfl) ?_
  exact kI (hk _ hF2 (hR1.trans hR2)) (by first | rfl | contradiction | simp [])
theorem kX1_account {l : Launch} {G : GX} {N : Nat} {S : Nat → va_E} {K : RK} {b : Nat} {F : FM} (hF : isF G N S b F) {x : Int32} (hk : ∀ S1, isF G N S1 b (fAcc F x) → FR b S S1 → K (.inl none) S1) : RetK l G N mX1_account (1, 21, 0, 0) [.ref (ad G b), .int x] S K := by
  refine ret_enter (by decide +kernel) (Nat.le_of_ble_eq_true rfl) (fun X hX h hm => ?_)
  subst hX
  replace h : OK X G N cX1_account RX1 7 (1, 21, 0, 0) := h
  replace hm : OKm X G N K none (1, 21, 0, 0) := hm
  show AW X G 7 N 0 [(0, _), (1, _)] [] S 0 0
  refine r_aload_n (pc' := 1) h dX1_account_0 rfl rfl ?_
  refine gX1_57 (pc' := 4) h dX1_account_1 rfl hF.l0 hF.o rfl ?_
  refine r_bipush (pc' := 6) (v := 24) h dX1_account_4 rfl (by decide) ?_
  refine r_irem (pc' := 7) h dX1_account_6 rfl (by decide) ?_
  refine r_istoren (j := 2) (pc' := 8) h rfl dX1_account_7 rfl (by decide) rfl ?_
  refine r_aload_n (pc' := 9) h dX1_account_8 rfl rfl ?_
  refine gX1_36 (pc' := 12) h dX1_account_9 rfl hF.l0 hF.o rfl ?_
  refine r_iload_n (pc' := 13) h dX1_account_12 rfl rfl ?_
  refine r_callSN2 (pc' := 16) (M := mX4_valueAt) h hm dX1_account_13 rfl lX1_80 vX4_valueAt (Nat.le_of_ble_eq_true rfl) (rrb rfl) (kX4_valueAt hF.l9 hF.r9 (by decide) ?_)
  show AW X G _ _ _ _ _ _ _ _
  refine r_istoren (j := 3) (pc' := 17) h rfl dX1_account_16 rfl (by decide) rfl ?_
  refine r_iload_n (pc' := 18) h dX1_account_17 rfl rfl ?_
  refine r_bipush (pc' := 20) (v := 20) h dX1_account_18 rfl (by decide) ?_
  refine r_idiv (pc' := 21) h dX1_account_20 rfl (by decide) ?_
  refine r_istore (pc' := 23) h dX1_account_21 rfl (by decide) rfl ?_
  refine r_iload_n (pc' := 24) h dX1_account_23 rfl rfl ?_
  refine r_iload (pc' := 26) h dX1_account_24 rfl rfl ?_
  refine r_isub (pc' := 27) h dX1_account_26 rfl ?_
  refine r_iload_n (pc' := 28) h dX1_account_27 rfl rfl ?_
  refine r_min (pc' := 31) (own := RX1) h dX1_account_28 rfl lX1_107 (rrm rfl) ?_
  refine r_istore (pc' := 33) h dX1_account_31 rfl (by decide) rfl ?_
  refine r_iload_n (pc' := 34) h dX1_account_33 rfl rfl ?_
  refine r_iload (pc' := 36) h dX1_account_34 rfl rfl ?_
  refine r_isub (pc' := 37) h dX1_account_36 rfl ?_
  refine r_istore (pc' := 39) h dX1_account_37 rfl (by decide) rfl ?_
  refine r_aload_n (pc' := 40) h dX1_account_39 rfl rfl ?_
  refine r_dup (pc' := 41) h dX1_account_40 rfl rfl ?_
  refine gX1_60 (pc' := 44) h dX1_account_41 rfl hF.l0 hF.o rfl ?_
  refine r_iload_n (pc' := 45) h dX1_account_44 rfl rfl ?_
  refine r_i2l (pc' := 46) h dX1_account_45 rfl ?_
  refine r_ladd (pc' := 47) h dX1_account_46 rfl ?_
  refine pX1_60 (pc' := 50) h dX1_account_47 rfl hF.l0 hF.o (Nat.le_of_ble_eq_true rfl) ?_
  refine wL0 hF (fun S1 hF1 hR1 => ?_)
  refine r_aload_n (pc' := 51) h dX1_account_50 rfl rfl ?_
  refine r_dup (pc' := 52) h dX1_account_51 rfl rfl ?_
  refine gX1_64 (pc' := 55) h dX1_account_52 rfl hF1.l0 hF1.o rfl ?_
  refine r_iload (pc' := 57) h dX1_account_55 rfl rfl ?_
  refine r_i2l (pc' := 58) h dX1_account_57 rfl ?_
  refine r_ladd (pc' := 59) h dX1_account_58 rfl ?_
  refine pX1_64 (pc' := 62) h dX1_account_59 rfl hF1.l0 hF1.o (Nat.le_of_ble_eq_true rfl) ?_
  refine wL1 hF1 (fun S2 hF2 hR2 => ?_)
  refine r_aload_n (pc' := 63) h dX1_account_62 rfl rfl ?_
  refine r_dup (pc' := 64) h dX1_account_63 rfl rfl ?_
  refine gX1_67 (pc' := 67) h dX1_account_64 rfl hF2.l0 hF2.o rfl ?_
  refine r_iload (pc' := 69) h dX1_account_67 rfl rfl ?_
  refine r_i2l (pc' := 70) h dX1_account_69 rfl ?_
  refine r_ladd (pc' := 71) h dX1_account_70 rfl ?_
  refine pX1_67 (pc' := 74) h dX1_account_71 rfl hF2.l0 hF2.o (Nat.le_of_ble_eq_true rfl) ?_
  refine wL2 hF2 (fun S3 hF3 hR3 => ?_)
  refine r_aload_n (pc' := 75) h dX1_account_74 rfl rfl ?_
  refine r_dup (pc' := 76) h dX1_account_75 rfl rfl ?_
  refine gX1_70 (pc' := 79) h dX1_account_76 rfl hF3.l0 hF3.o rfl ?_
  refine r_iload_n (pc' := 80) h dX1_account_79 rfl rfl ?_
  refine r_iload (pc' := 82) h dX1_account_80 rfl rfl ?_
  refine r_isub (pc' := 83) h dX1_account_82 rfl ?_
  refine r_iload (pc' := 85) h dX1_account_83 rfl rfl ?_
  refine r_isub (pc' := 86) h dX1_account_85 rfl ?_
  refine r_i2l (pc' := 87) h dX1_account_86 rfl ?_
  refine r_ladd (pc' := 88) h dX1_account_87 rfl ?_
  refine pX1_70 (pc' := 91) h dX1_account_88 rfl hF3.l0 hF3.o (Nat.le_of_ble_eq_true rfl) ?_
  refine wL3 hF3 (fun S4 hF4 hR4 => ?_)
  refine r_aload_n (pc' := 92) h dX1_account_91 rfl rfl ?_
  refine r_dup (pc' := 93) h dX1_account_92 rfl rfl ?_
  refine gX1_73 (pc' := 96) h dX1_account_93 rfl hF4.l0 hF4.o rfl ?_
  refine r_aload_n (pc' := 97) h dX1_account_96 rfl rfl ?_
  refine gX1_33 (pc' := 100) h dX1_account_97 rfl hF4.l0 hF4.o rfl ?_
  refine r_iload_n (pc' := 101) h dX1_account_100 rfl rfl ?_
  refine r_callSN2 (pc' := 104) (M := mX4_valueAt) h hm dX1_account_101 rfl lX1_80 vX4_valueAt (Nat.le_of_ble_eq_true rfl) (rrb rfl) (kX4_valueAt hF4.l8 hF4.r8 (by decide) ?_)
  show AW X G _ _ _ _ _ _ _ _
  refine r_iload (pc' := 106) h dX1_account_104 rfl rfl ?_
  refine r_iload (pc' := 108) h dX1_account_106 rfl rfl ?_
  refine r_isub (pc' := 109) h dX1_account_108 rfl ?_
  refine r_imul (pc' := 110) h dX1_account_109 rfl ?_
  refine r_i2l (pc' := 111) h dX1_account_110 rfl ?_
  refine r_ladd (pc' := 112) h dX1_account_111 rfl ?_
  refine pX1_73 (pc' := 115) h dX1_account_112 rfl hF4.l0 hF4.o (Nat.le_of_ble_eq_true rfl) ?_
  refine wL4 hF4 (fun S5 hF5 hR5 => ?_)
  refine r_return h hm dX1_account_115 (Nat.le_of_ble_eq_true rfl) (Nat.le_of_ble_eq_true rfl) ?_
  exact hk _ hF5 ((((hR1.trans hR2).trans hR3).trans hR4).trans hR5)
theorem kX1_turbineWithMostOutput {l : Launch} {G : GX} {N : Nat} {S : Nat → va_E} {K : RK} {b : Nat} {F : FM} (hF : isF G N S b F) (hw : wF F) (hk : K (.inl (some (.int ((bst F (fN F)).1)))) S) : RetK l G N mX1_turbineWithMostOutput (3, 71, 0, 0) [.ref (ad G b)] S K := by
  refine ret_enter (by decide +kernel) (Nat.le_of_ble_eq_true rfl) (fun X hX h hm => ?_)
  subst hX
  replace h : OK X G N cX1_turbineWithMostOutput RX1 5 (3, 71, 0, 0) := h
  replace hm : OKm X G N K (some .int) (3, 71, 0, 0) := hm
  show AW X G 5 N 0 [(0, _)] [] S 0 0
  refine r_iconst (pc' := 1) (v := -1) h dX1_turbineWithMostOutput_0 rfl (by decide) ?_
  refine r_istoren (j := 1) (pc' := 2) h rfl dX1_turbineWithMostOutput_1 rfl (by decide) rfl ?_
  refine r_iconst (pc' := 3) (v := -1) h dX1_turbineWithMostOutput_2 rfl (by decide) ?_
  refine r_istoren (j := 2) (pc' := 4) h rfl dX1_turbineWithMostOutput_3 rfl (by decide) rfl ?_
  refine r_iconst (pc' := 5) (v := 0) h dX1_turbineWithMostOutput_4 rfl (by decide) ?_
  refine r_istoren (j := 3) (pc' := 6) h rfl dX1_turbineWithMostOutput_5 rfl (by decide) rfl ?_
  have loop : ∀ (n j : Nat), j ≤ fN F → fN F - j < n → AW X G 5 N 6 [(0, .ref (ad G b)), (1, .int (bst F j).1), (2, .int (bst F j).2), (3, .int (nI j))] [] S 0 0 := by
    intro n
    induction n with
    | zero => intro j h1 h2; exact absurd h2 (by omega)
    | succ n ih =>
      intro j h1 h2
      refine r_iload_n (pc' := 7) h dX1_turbineWithMostOutput_6 rfl rfl ?_
      refine r_aload_n (pc' := 8) h dX1_turbineWithMostOutput_7 rfl rfl ?_
      refine gX1_51 (pc' := 11) h dX1_turbineWithMostOutput_8 rfl hF.l0 hF.o rfl ?_
      refine r_icmp_ge (tgt := 46) (pc' := 14) h dX1_turbineWithMostOutput_11 (by decide) rfl (fun c0 => ?_) (fun c0 => ?_)
      · have ej := lp_ge (c := fN F) hw.1 (by have := hw.2; omega) h1 c0
        subst ej
        refine r_iload_n (pc' := 47) h dX1_turbineWithMostOutput_46 rfl rfl ?_
        refine r_ireturn h hm dX1_turbineWithMostOutput_47 (Nat.le_of_ble_eq_true rfl) (Nat.le_of_ble_eq_true rfl) ?_
        exact kI hk (by first | rfl | contradiction | simp [bst, c0])
      · have hj := lp_lt (c := fN F) hw.1 (by have := hw.2; omega) h1 c0
        refine r_aload_n (pc' := 15) h dX1_turbineWithMostOutput_14 rfl rfl ?_
        refine r_iload_n (pc' := 16) h dX1_turbineWithMostOutput_15 rfl rfl ?_
        refine r_aload_n (pc' := 17) h dX1_turbineWithMostOutput_16 rfl rfl ?_
        refine gX1_39 (pc' := 20) h dX1_turbineWithMostOutput_17 rfl hF.l0 hF.o rfl ?_
        refine r_aload_n (pc' := 21) h dX1_turbineWithMostOutput_20 rfl rfl ?_
        refine gX1_54 (pc' := 24) h dX1_turbineWithMostOutput_21 rfl hF.l0 hF.o rfl ?_
        refine r_callV3 (pc' := 27) (M := mX1_outputIn) h hm dX1_turbineWithMostOutput_24 rfl lX1_123 vX1_outputIn rfl hF.l0 hF.o (Nat.le_of_ble_eq_true rfl) (rrb rfl) (kX1_outputIn hF ?_)
        show AW X G _ _ _ _ _ _ _ _
        refine r_istore (pc' := 29) h dX1_turbineWithMostOutput_27 rfl (by decide) rfl ?_
        refine r_iload (pc' := 31) h dX1_turbineWithMostOutput_29 rfl rfl ?_
        refine r_iload_n (pc' := 32) h dX1_turbineWithMostOutput_31 rfl rfl ?_
        refine r_icmp_le (tgt := 40) (pc' := 35) h dX1_turbineWithMostOutput_32 (by decide) rfl (fun c1 => ?_) (fun c1 => ?_)
        · refine r_iinc (pc' := 43) (v := 1) h dX1_turbineWithMostOutput_40 rfl (by decide) (by decide) rfl rfl ?_
          refine r_goto (tgt := 6) h dX1_turbineWithMostOutput_43 (by decide) ?_
          refine r_sub (lo' := [(0, _), (1, _), (2, _), (3, _)]) [0, 1, 2, 3] rfl ?_
          exact aw_cast (by simp [bst, nI_1, c0, c1]) (ih (j + 1) (by omega) (by omega))
        · refine r_iload (pc' := 37) h dX1_turbineWithMostOutput_35 rfl rfl ?_
          refine r_istoren (j := 2) (pc' := 38) h rfl dX1_turbineWithMostOutput_37 rfl (by decide) rfl ?_
          refine r_iload_n (pc' := 39) h dX1_turbineWithMostOutput_38 rfl rfl ?_
          refine r_istoren (j := 1) (pc' := 40) h rfl dX1_turbineWithMostOutput_39 rfl (by decide) rfl ?_
          refine r_iinc (pc' := 43) (v := 1) h dX1_turbineWithMostOutput_40 rfl (by decide) (by decide) rfl rfl ?_
          refine r_goto (tgt := 6) h dX1_turbineWithMostOutput_43 (by decide) ?_
          refine r_sub (lo' := [(0, _), (1, _), (2, _), (3, _)]) [0, 1, 2, 3] rfl ?_
          exact aw_cast (by simp [bst, nI_1, c0, c1]) (ih (j + 1) (by omega) (by omega))
  exact loop (fN F + 1) 0 (Nat.zero_le _) (by omega)
