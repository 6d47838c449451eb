/-! THE WALKS: the reader of commands. -/
theorem kX0_restart {l : Launch} {G : GX} {N : Nat} {S : Nat → va_E} {K : RK} {D : DM} (hD : isD G N S D) (hk : ∀ S1, isD G N S1 (sD D 8 0) → DR S S1 → K (.inl none) S1) : RetK l G N mX0_restart (0, 0, 0, 0) [.ref (ad G 113)] S K := by
  refine ret_enter (by decide +kernel) (Nat.le_of_ble_eq_true rfl) (fun X hX h hm => ?_)
  subst hX
  replace h : OK X G N cX0_restart RX0 1 (0, 0, 0, 0) := h
  replace hm : OKm X G N K none (0, 0, 0, 0) := hm
  show AW X G 1 N 0 [(0, _)] [] S 0 0
  refine r_aload_n (pc' := 1) h dX0_restart_0 rfl rfl ?_
  refine r_iconst (pc' := 2) (v := 0) h dX0_restart_1 rfl (by decide) ?_
  refine pX0_22 (pc' := 5) h dX0_restart_2 rfl hD.l113 hD.o113 (Nat.le_of_ble_eq_true rfl) ?_
  refine wD8 hD (fun S1 hD1 hR1 => ?_)
  refine r_return h hm dX0_restart_5 (Nat.le_of_ble_eq_true rfl) (Nat.le_of_ble_eq_true rfl) ?_
  exact hk _ hD1 hR1
theorem kX0_argument {l : Launch} {G : GX} {N : Nat} {S : Nat → va_E} {K : RK} {D : DM} (hD : isD G N S D) {i : Int32} (hk : K (.inl (some (.int (rAr D i)))) S) : RetK l G N mX0_argument (1, 21, 0, 0) [.ref (ad G 113), .int i] S K := by
  refine ret_enter (by decide +kernel) (Nat.le_of_ble_eq_true rfl) (fun X hX h hm => ?_)
  subst hX
  replace h : OK X G N cX0_argument RX0 2 (1, 21, 0, 0) := h
  replace hm : OKm X G N K (some .int) (1, 21, 0, 0) := hm
  show AW X G 2 N 0 [(0, _), (1, _)] [] S 0 0
  refine r_iload_n (pc' := 1) h dX0_argument_0 rfl rfl ?_
  refine r_aload_n (pc' := 2) h dX0_argument_1 rfl rfl ?_
  refine gX0_26 (pc' := 5) h dX0_argument_2 rfl hD.l113 hD.o113 rfl ?_
  refine r_icmp_ge (tgt := 19) (pc' := 8) h dX0_argument_5 (by decide) rfl (fun c0 => ?_) (fun c0 => ?_)
  · skip
    refine r_iconst (pc' := 20) (v := 0) h dX0_argument_19 rfl (by decide) ?_
    refine r_ireturn h hm dX0_argument_20 (Nat.le_of_ble_eq_true rfl) (Nat.le_of_ble_eq_true rfl) ?_
    exact kI hk (by rw [rAr, if_pos c0])
  · refine r_aload_n (pc' := 9) h dX0_argument_8 rfl rfl ?_
    refine gX0_18 (pc' := 12) h dX0_argument_9 rfl hD.l113 hD.o113 rfl ?_
    refine r_iload_n (pc' := 13) h dX0_argument_12 rfl rfl ?_
    refine r_callSN2 (pc' := 16) (M := mX4_valueAt) h hm dX0_argument_13 rfl lX0_29 vX4_valueAt (Nat.le_of_ble_eq_true rfl) (rrb rfl) (kX4_valueAt hD.l116 hD.o116 (by decide) ?_)
    show AW X G _ _ _ _ _ _ _ _
    refine r_goto (tgt := 20) h dX0_argument_16 (by decide) ?_
    refine r_ireturn h hm dX0_argument_20 (Nat.le_of_ble_eq_true rfl) (Nat.le_of_ble_eq_true rfl) ?_
    exact kI hk (by rw [rAr, if_neg c0])
theorem kX0_keepArgument {l : Launch} {G : GX} {N : Nat} {S : Nat → va_E} {K : RK} {D : DM} (hD : isD G N S D) {v : Int32} (hk : ∀ S1, isD G N S1 (rKp D v) → DR S S1 → K (.inl none) S1) : RetK l G N mX0_keepArgument (1, 22, 0, 0) [.ref (ad G 113), .int v] S K := by
  refine ret_enter (by decide +kernel) (Nat.le_of_ble_eq_true rfl) (fun X hX h hm => ?_)
  subst hX
  replace h : OK X G N cX0_keepArgument RX0 2 (1, 22, 0, 0) := h
  replace hm : OKm X G N K none (1, 22, 0, 0) := hm
  show AW X G 2 N 0 [(0, _), (1, _)] [] S 0 0
  refine r_aload_n (pc' := 1) h dX0_keepArgument_0 rfl rfl ?_
  refine gX0_18 (pc' := 4) h dX0_keepArgument_1 rfl hD.l113 hD.o113 rfl ?_
  refine r_aload_n (pc' := 5) h dX0_keepArgument_4 rfl rfl ?_
  refine gX0_26 (pc' := 8) h dX0_keepArgument_5 rfl hD.l113 hD.o113 rfl ?_
  refine r_iload_n (pc' := 9) h dX0_keepArgument_8 rfl rfl ?_
  refine r_callSN3 (pc' := 12) (M := mX4_setValue) h hm dX0_keepArgument_9 rfl lX0_100 vX4_setValue (Nat.le_of_ble_eq_true rfl) (rrb rfl) (kX4_setValue hD.l116 hD.o116 (by decide) ?_)
  show AW X G _ _ _ _ _ _ _ _
  refine wDargs hD (fun S1 hD1 hR1 => ?_)
  refine r_aload_n (pc' := 13) h dX0_keepArgument_12 rfl rfl ?_
  refine r_dup (pc' := 14) h dX0_keepArgument_13 rfl rfl ?_
  refine gX0_26 (pc' := 17) h dX0_keepArgument_14 rfl hD1.l113 hD1.o113 rfl ?_
  refine r_iconst (pc' := 18) (v := 1) h dX0_keepArgument_17 rfl (by decide) ?_
  refine r_iadd (pc' := 19) h dX0_keepArgument_18 rfl ?_
  refine pX0_26 (pc' := 22) h dX0_keepArgument_19 rfl hD1.l113 hD1.o113 (Nat.le_of_ble_eq_true rfl) ?_
  refine wD7 hD1 (fun S2 hD2 hR2 => ?_)
  refine r_return h hm dX0_keepArgument_22 (Nat.le_of_ble_eq_true rfl) (Nat.le_of_ble_eq_true rfl) ?_
  exact hk _ hD2 ((hR1).trans hR2)
theorem kX0_readSign {l : Launch} {G : GX} {N : Nat} {S : Nat → va_E} {K : RK} {D : DM} (hD : isD G N S D) {c : Int32} (hrc : rowC (dR D 1)) (hk : ∀ S1, isD G N S1 (rSn D c).1 → DR S S1 → K (.inl (some (.int (b2i (rSn D c).2)))) S1) : RetK l G N mX0_readSign (1, 21, 0, 0) [.ref (ad G 113), .int c] S K := by
  refine ret_enter (by decide +kernel) (Nat.le_of_ble_eq_true rfl) (fun X hX h hm => ?_)
  subst hX
  replace h : OK X G N cX0_readSign RX0 2 (1, 21, 0, 0) := h
  replace hm : OKm X G N K (some .boolean) (1, 21, 0, 0) := hm
  show AW X G 2 N 0 [(0, _), (1, _)] [] S 0 0
  refine r_aload_n (pc' := 1) h dX0_readSign_0 rfl rfl ?_
  refine gX0_12 (pc' := 4) h dX0_readSign_1 rfl hD.l113 hD.o113 rfl ?_
  refine r_aload_n (pc' := 5) h dX0_readSign_4 rfl rfl ?_
  refine gX0_22 (pc' := 8) h dX0_readSign_5 rfl hD.l113 hD.o113 rfl ?_
  refine r_callV1 (pc' := 11) (M := mX3_signAt) h hm dX0_readSign_8 rfl lX0_47 vX3_signAt rfl hD.t1.l0 hD.t1.o (Nat.le_of_ble_eq_true rfl) (rrb rfl) (kX3_signAt hD.t1 hrc ?_)
  show AW X G _ _ _ _ _ _ _ _
  refine r_iload_n (pc' := 12) h dX0_readSign_11 rfl rfl ?_
  refine r_icmp_eq (tgt := 17) (pc' := 15) h dX0_readSign_12 (by decide) rfl (fun c0 => ?_) (fun c0 => ?_)
  · refine r_aload_n (pc' := 18) h dX0_readSign_17 rfl rfl ?_
    refine r_dup (pc' := 19) h dX0_readSign_18 rfl rfl ?_
    refine gX0_22 (pc' := 22) h dX0_readSign_19 rfl hD.l113 hD.o113 rfl ?_
    refine r_iconst (pc' := 23) (v := 1) h dX0_readSign_22 rfl (by decide) ?_
    refine r_iadd (pc' := 24) h dX0_readSign_23 rfl ?_
    refine pX0_22 (pc' := 27) h dX0_readSign_24 rfl hD.l113 hD.o113 (Nat.le_of_ble_eq_true rfl) ?_
    refine wD8 hD (fun S1 hD1 hR1 => ?_)
    refine r_iconst (pc' := 28) (v := 1) h dX0_readSign_27 rfl (by decide) ?_
    refine r_zreturn h hm dX0_readSign_28 (Nat.le_of_ble_eq_true rfl) (Nat.le_of_ble_eq_true rfl) (by first | rfl | exact nar_b _) ?_
    exact kB hk hD1 hR1 (by rw [rSn]; exact if_pos c0) (v := true) rfl
  · refine r_iconst (pc' := 16) (v := 0) h dX0_readSign_15 rfl (by decide) ?_
    refine r_zreturn h hm dX0_readSign_16 (Nat.le_of_ble_eq_true rfl) (Nat.le_of_ble_eq_true rfl) (by first | rfl | exact nar_b _) ?_
    exact kB hk hD DR.rfl' (by rw [rSn]; exact if_neg c0) (v := false) rfl
theorem kX0_readDirection {l : Launch} {G : GX} {N : Nat} {S : Nat → va_E} {K : RK} {D : DM} (hD : isD G N S D) (hrc : rowC (dR D 1)) (hk : ∀ S1, isD G N S1 (rDr D).1 → DR S S1 → K (.inl (some (.int (b2i (rDr D).2)))) S1) : RetK l G N mX0_readDirection (2, 43, 0, 0) [.ref (ad G 113)] S K := by
  refine ret_enter (by decide +kernel) (Nat.le_of_ble_eq_true rfl) (fun X hX h hm => ?_)
  subst hX
  replace h : OK X G N cX0_readDirection RX0 2 (2, 43, 0, 0) := h
  replace hm : OKm X G N K (some .boolean) (2, 43, 0, 0) := hm
  show AW X G 2 N 0 [(0, _)] [] S 0 0
  refine r_aload_n (pc' := 1) h dX0_readDirection_0 rfl rfl ?_
  refine gX0_12 (pc' := 4) h dX0_readDirection_1 rfl hD.l113 hD.o113 rfl ?_
  refine r_aload_n (pc' := 5) h dX0_readDirection_4 rfl rfl ?_
  refine gX0_22 (pc' := 8) h dX0_readDirection_5 rfl hD.l113 hD.o113 rfl ?_
  refine r_callV1 (pc' := 11) (M := mX3_signAt) h hm dX0_readDirection_8 rfl lX0_47 vX3_signAt rfl hD.t1.l0 hD.t1.o (Nat.le_of_ble_eq_true rfl) (rrb rfl) (kX3_signAt hD.t1 hrc ?_)
  show AW X G _ _ _ _ _ _ _ _
  refine r_istoren (j := 1) (pc' := 12) h rfl dX0_readDirection_11 rfl (by decide) rfl ?_
  refine r_iload_n (pc' := 13) h dX0_readDirection_12 rfl rfl ?_
  refine r_callSN1 (pc' := 16) (M := mX4_isDirection) h hm dX0_readDirection_13 rfl lX0_97 vX4_isDirection (Nat.le_of_ble_eq_true rfl) (rrb rfl) (kX4_isDirection ?_)
  show AW X G _ _ _ _ _ _ _ _
  refine r_if_neb (tgt := 21) (pc' := 19) h dX0_readDirection_16 (by decide) rfl (fun c0 => ?_) (fun c0 => ?_)
  · refine r_aload_n (pc' := 22) h dX0_readDirection_21 rfl rfl ?_
    refine r_iload_n (pc' := 23) h dX0_readDirection_22 rfl rfl ?_
    refine r_callV1 (pc' := 26) (M := mX0_keepArgument) h hm dX0_readDirection_23 rfl lX0_93 vX0_keepArgument rfl hD.l113 hD.o113 (Nat.le_of_ble_eq_true rfl) (rrb rfl) (kX0_keepArgument hD (fun S1 hD1 hR1 => ?_))
    show AW X G _ _ _ _ _ _ _ _
    refine r_aload_n (pc' := 27) h dX0_readDirection_26 rfl rfl ?_
    refine r_dup (pc' := 28) h dX0_readDirection_27 rfl rfl ?_
    refine gX0_22 (pc' := 31) h dX0_readDirection_28 rfl hD1.l113 hD1.o113 rfl ?_
    refine r_iconst (pc' := 32) (v := 1) h dX0_readDirection_31 rfl (by decide) ?_
    refine r_iadd (pc' := 33) h dX0_readDirection_32 rfl ?_
    refine pX0_22 (pc' := 36) h dX0_readDirection_33 rfl hD1.l113 hD1.o113 (Nat.le_of_ble_eq_true rfl) ?_
    refine wD8 hD1 (fun S2 hD2 hR2 => ?_)
    refine r_iconst (pc' := 37) (v := 1) h dX0_readDirection_36 rfl (by decide) ?_
    refine r_zreturn h hm dX0_readDirection_37 (Nat.le_of_ble_eq_true rfl) (Nat.le_of_ble_eq_true rfl) (by first | rfl | exact nar_b _) ?_
    exact kB hk hD2 ((hR1).trans hR2) (by rw [rDr]; exact if_pos c0) (v := true) rfl
  · refine r_iconst (pc' := 20) (v := 0) h dX0_readDirection_19 rfl (by decide) ?_
    refine r_zreturn h hm dX0_readDirection_20 (Nat.le_of_ble_eq_true rfl) (Nat.le_of_ble_eq_true rfl) (by first | rfl | exact nar_b _) ?_
    exact kB hk hD DR.rfl' (by rw [rDr]; exact (if_neg (fun z => absurd (z.symm.trans c0) (by decide)))) (v := false) rfl
theorem kX0_readDigits {l : Launch} {G : GX} {N : Nat} {S : Nat → va_E} {K : RK} {D : DM} (hD : isD G N S D) {m : Nat} (hm0 : m < 2 ^ 31) (hrc : rowC (dR D 1)) (hk : ∀ S1, isD G N S1 (rDg m D).1 → DR S S1 → K (.inl (some (.int (b2i (rDg m D).2)))) S1) : RetK l G N mX0_readDigits (2, 43, 0, 0) [.ref (ad G 113), .int (nI m)] S K := by
  refine ret_enter (by decide +kernel) (Nat.le_of_ble_eq_true rfl) (fun X hX h hm => ?_)
  subst hX
  replace h : OK X G N cX0_readDigits RX0 4 (2, 43, 0, 0) := h
  replace hm : OKm X G N K (some .boolean) (2, 43, 0, 0) := hm
  show AW X G 4 N 0 [(0, _), (1, _)] [] S 0 0
  refine r_iconst (pc' := 1) (v := 0) h dX0_readDigits_0 rfl (by decide) ?_
  refine r_istoren (j := 2) (pc' := 2) h rfl dX0_readDigits_1 rfl (by decide) rfl ?_
  refine r_iconst (pc' := 3) (v := 0) h dX0_readDigits_2 rfl (by decide) ?_
  refine r_istoren (j := 3) (pc' := 4) h rfl dX0_readDigits_3 rfl (by decide) rfl ?_
  have loop : ∀ (n j : Nat), j ≤ m → m - j < n → ∀ (Sj : Nat → va_E) (D1 : DM) (v : Int32), isD G N Sj D1 → DR S Sj → rowC (dR D1 1) → rDl (m - j) D1 v (nI j) = rDl m D 0 0 → AW X G 4 N 4 [(0, .ref (ad G 113)), (1, .int (nI m)), (2, .int v), (3, .int (nI j))] [] Sj 0 0 := by
    intro n
    induction n with
    | zero => intro j h1 h2; exact absurd h2 (by omega)
    | succ n ih =>
      intro j h1 h2 Sj D1 v hj1 hr1 hc1 hv
      refine r_iload_n (pc' := 5) h dX0_readDigits_4 rfl rfl ?_
      refine r_iload_n (pc' := 6) h dX0_readDigits_5 rfl rfl ?_
      refine r_icmp_ge (tgt := 66) (pc' := 9) h dX0_readDigits_6 (by decide) rfl (fun c0 => ?_) (fun c0 => ?_)
      · have ej := lp_ge (c := m) rfl hm0 h1 c0
        rw [ej] at hv
        have e9 : rDl m D 0 0 = (D1, v, nI j) := by rw [← hv, Nat.sub_self, ej]; rfl
        refine r_aload_n (pc' := 67) h dX0_readDigits_66 rfl rfl ?_
        refine r_iload_n (pc' := 68) h dX0_readDigits_67 rfl rfl ?_
        refine r_callV1 (pc' := 71) (M := mX0_keepArgument) h hm dX0_readDigits_68 rfl lX0_93 vX0_keepArgument rfl hj1.l113 hj1.o113 (Nat.le_of_ble_eq_true rfl) (rrb rfl) (kX0_keepArgument hj1 (fun S1 hD1 hR1 => ?_))
        show AW X G _ _ _ _ _ _ _ _
        refine r_iload_n (pc' := 72) h dX0_readDigits_71 rfl rfl ?_
        refine r_if_le (tgt := 79) (pc' := 75) h dX0_readDigits_72 (by decide) rfl (fun c1 => ?_) (fun c1 => ?_)
        · skip
          refine r_iconst (pc' := 80) (v := 0) h dX0_readDigits_79 rfl (by decide) ?_
          refine r_zreturn h hm dX0_readDigits_80 (Nat.le_of_ble_eq_true rfl) (Nat.le_of_ble_eq_true rfl) (by first | rfl | exact nar_b _) ?_
          exact kB hk hD1 ((hr1).trans hR1) (by rw [rDg, e9]; exact congrArg (Prod.mk _) (if_pos c1)) (v := false) rfl
        · refine r_iconst (pc' := 76) (v := 1) h dX0_readDigits_75 rfl (by decide) ?_
          refine r_goto (tgt := 80) h dX0_readDigits_76 (by decide) ?_
          refine r_zreturn h hm dX0_readDigits_80 (Nat.le_of_ble_eq_true rfl) (Nat.le_of_ble_eq_true rfl) (by first | rfl | exact nar_b _) ?_
          exact kB hk hD1 ((hr1).trans hR1) (by rw [rDg, e9]; exact congrArg (Prod.mk _) (if_neg c1)) (v := true) rfl
      · have hj := lp_lt (c := m) rfl hm0 h1 c0
        refine r_aload_n (pc' := 10) h dX0_readDigits_9 rfl rfl ?_
        refine gX0_12 (pc' := 13) h dX0_readDigits_10 rfl hj1.l113 hj1.o113 rfl ?_
        refine r_aload_n (pc' := 14) h dX0_readDigits_13 rfl rfl ?_
        refine gX0_22 (pc' := 17) h dX0_readDigits_14 rfl hj1.l113 hj1.o113 rfl ?_
        refine r_callV1 (pc' := 20) (M := mX3_signAt) h hm dX0_readDigits_17 rfl lX0_47 vX3_signAt rfl hj1.t1.l0 hj1.t1.o (Nat.le_of_ble_eq_true rfl) (rrb rfl) (kX3_signAt hj1.t1 hc1 ?_)
        show AW X G _ _ _ _ _ _ _ _
        refine r_bipush (pc' := 22) (v := 48) h dX0_readDigits_20 rfl (by decide) ?_
        refine r_bipush (pc' := 24) (v := 57) h dX0_readDigits_22 rfl (by decide) ?_
        refine r_callSN3 (pc' := 27) (M := mX4_isWithin) h hm dX0_readDigits_24 rfl lX0_89 vX4_isWithin (Nat.le_of_ble_eq_true rfl) (rrb rfl) (kX4_isWithin ?_)
        show AW X G _ _ _ _ _ _ _ _
        refine r_if_eqb (tgt := 66) (pc' := 30) h dX0_readDigits_27 (by decide) rfl (fun c2 => ?_) (fun c2 => ?_)
        · have e9 : rDl m D 0 0 = (D1, v, nI j) := by rw [← hv, show m - j = (m - (j + 1)) + 1 by omega, rDl]; exact if_neg (fun z => absurd (z.symm.trans c2) (by decide))
          refine r_aload_n (pc' := 67) h dX0_readDigits_66 rfl rfl ?_
          refine r_iload_n (pc' := 68) h dX0_readDigits_67 rfl rfl ?_
          refine r_callV1 (pc' := 71) (M := mX0_keepArgument) h hm dX0_readDigits_68 rfl lX0_93 vX0_keepArgument rfl hj1.l113 hj1.o113 (Nat.le_of_ble_eq_true rfl) (rrb rfl) (kX0_keepArgument hj1 (fun S2 hD2 hR2 => ?_))
          show AW X G _ _ _ _ _ _ _ _
          refine r_iload_n (pc' := 72) h dX0_readDigits_71 rfl rfl ?_
          refine r_if_le (tgt := 79) (pc' := 75) h dX0_readDigits_72 (by decide) rfl (fun c3 => ?_) (fun c3 => ?_)
          · skip
            refine r_iconst (pc' := 80) (v := 0) h dX0_readDigits_79 rfl (by decide) ?_
            refine r_zreturn h hm dX0_readDigits_80 (Nat.le_of_ble_eq_true rfl) (Nat.le_of_ble_eq_true rfl) (by first | rfl | exact nar_b _) ?_
            exact kB hk hD2 ((hr1).trans hR2) (by rw [rDg, e9]; exact congrArg (Prod.mk _) (if_pos c3)) (v := false) rfl
          · refine r_iconst (pc' := 76) (v := 1) h dX0_readDigits_75 rfl (by decide) ?_
            refine r_goto (tgt := 80) h dX0_readDigits_76 (by decide) ?_
            refine r_zreturn h hm dX0_readDigits_80 (Nat.le_of_ble_eq_true rfl) (Nat.le_of_ble_eq_true rfl) (by first | rfl | exact nar_b _) ?_
            exact kB hk hD2 ((hr1).trans hR2) (by rw [rDg, e9]; exact congrArg (Prod.mk _) (if_neg c3)) (v := true) rfl
        · refine r_iload_n (pc' := 31) h dX0_readDigits_30 rfl rfl ?_
          refine r_bipush (pc' := 33) (v := 10) h dX0_readDigits_31 rfl (by decide) ?_
          refine r_imul (pc' := 34) h dX0_readDigits_33 rfl ?_
          refine r_aload_n (pc' := 35) h dX0_readDigits_34 rfl rfl ?_
          refine gX0_12 (pc' := 38) h dX0_readDigits_35 rfl hj1.l113 hj1.o113 rfl ?_
          refine r_aload_n (pc' := 39) h dX0_readDigits_38 rfl rfl ?_
          refine gX0_22 (pc' := 42) h dX0_readDigits_39 rfl hj1.l113 hj1.o113 rfl ?_
          refine r_callV1 (pc' := 45) (M := mX3_signAt) h hm dX0_readDigits_42 rfl lX0_47 vX3_signAt rfl hj1.t1.l0 hj1.t1.o (Nat.le_of_ble_eq_true rfl) (rrb rfl) (kX3_signAt hj1.t1 hc1 ?_)
          show AW X G _ _ _ _ _ _ _ _
          refine r_iadd (pc' := 46) h dX0_readDigits_45 rfl ?_
          refine r_bipush (pc' := 48) (v := 48) h dX0_readDigits_46 rfl (by decide) ?_
          refine r_isub (pc' := 49) h dX0_readDigits_48 rfl ?_
          refine r_istoren (j := 2) (pc' := 50) h rfl dX0_readDigits_49 rfl (by decide) rfl ?_
          refine r_aload_n (pc' := 51) h dX0_readDigits_50 rfl rfl ?_
          refine r_dup (pc' := 52) h dX0_readDigits_51 rfl rfl ?_
          refine gX0_22 (pc' := 55) h dX0_readDigits_52 rfl hj1.l113 hj1.o113 rfl ?_
          refine r_iconst (pc' := 56) (v := 1) h dX0_readDigits_55 rfl (by decide) ?_
          refine r_iadd (pc' := 57) h dX0_readDigits_56 rfl ?_
          refine pX0_22 (pc' := 60) h dX0_readDigits_57 rfl hj1.l113 hj1.o113 (Nat.le_of_ble_eq_true rfl) ?_
          refine wD8 hj1 (fun S3 hD3 hR3 => ?_)
          refine r_iinc (pc' := 63) (v := 1) h dX0_readDigits_60 rfl (by decide) (by decide) rfl rfl ?_
          refine r_goto (tgt := 4) h dX0_readDigits_63 (by decide) ?_
          refine aw_cast (by simp [nI_1, rSg]; done) (ih (j + 1) (by omega) (by omega) _ _ (v * 10 + rSg D1 - 48) hD3 ((hr1).trans hR3) ((Sm_Ad D1).row hc1) ?_)
          have c9 : wIn (rSg D1) 48 57 = true := c2
          rw [← hv, show m - j = (m - (j + 1)) + 1 by omega, rDl, if_pos c9, nI_1]
          rfl
  exact loop (m + 1) 0 (Nat.zero_le _) (by omega) _ D 0 hD DR.rfl' hrc rfl
theorem kX0_readPart {l : Launch} {G : GX} {N : Nat} {S : Nat → va_E} {K : RK} {D : DM} (hD : isD G N S D) {c : Int32} (hrc : rowC (dR D 1)) (hk : ∀ S1, isD G N S1 (rPt D c).1 → DR S S1 → K (.inl (some (.int (b2i (rPt D c).2)))) S1) : RetK l G N mX0_readPart (3, 66, 0, 0) [.ref (ad G 113), .int c] S K := by
  refine ret_enter (by decide +kernel) (Nat.le_of_ble_eq_true rfl) (fun X hX h hm => ?_)
  subst hX
  replace h : OK X G N cX0_readPart RX0 2 (3, 66, 0, 0) := h
  replace hm : OKm X G N K (some .boolean) (3, 66, 0, 0) := hm
  show AW X G 2 N 0 [(0, _), (1, _)] [] S 0 0
  refine r_iload_n (pc' := 1) h dX0_readPart_0 rfl rfl ?_
  refine r_lsw h dX0_readPart_1 (by decide) (by decide) ?_
  refine ⟨fun e0 => ?_, fun e0 => ?_⟩
  · have e0 := Int32.toInt_inj.mp (e0.trans (by decide : (49 : Int) = Int32.toInt 49))
    show AW X G _ _ 36 _ _ _ _ _
    refine r_aload_n (pc' := 37) h dX0_readPart_36 rfl rfl ?_
    refine r_iconst (pc' := 38) (v := 1) h dX0_readPart_37 rfl (by decide) ?_
    refine r_callV1 (pc' := 41) (M := mX0_readDigits) h hm dX0_readPart_38 rfl lX0_82 vX0_readDigits rfl hD.l113 hD.o113 (Nat.le_of_ble_eq_true rfl) (rrb rfl) (kX0_readDigits (m := 1) hD (by decide) hrc (fun S1 hD1 hR1 => ?_))
    show AW X G _ _ _ _ _ _ _ _
    refine r_zreturn h hm dX0_readPart_41 (Nat.le_of_ble_eq_true rfl) (Nat.le_of_ble_eq_true rfl) (by first | rfl | exact nar_b _) ?_
    exact kB hk hD1 hR1 (by rw [rPt]; exact (if_pos e0)) rfl
  · have e0 : ¬ _ = (49 : Int32) := fun z => e0 ((congrArg Int32.toInt z).trans (by decide : Int32.toInt 49 = (49 : Int)))
    refine ⟨fun e1 => ?_, fun e1 => ?_⟩
    · have e1 := Int32.toInt_inj.mp (e1.trans (by decide : (110 : Int) = Int32.toInt 110))
      show AW X G _ _ 42 _ _ _ _ _
      refine r_aload_n (pc' := 43) h dX0_readPart_42 rfl rfl ?_
      refine r_iconst (pc' := 44) (v := 3) h dX0_readPart_43 rfl (by decide) ?_
      refine r_callV1 (pc' := 47) (M := mX0_readDigits) h hm dX0_readPart_44 rfl lX0_82 vX0_readDigits rfl hD.l113 hD.o113 (Nat.le_of_ble_eq_true rfl) (rrb rfl) (kX0_readDigits (m := 3) hD (by decide) hrc (fun S2 hD2 hR2 => ?_))
      show AW X G _ _ _ _ _ _ _ _
      refine r_zreturn h hm dX0_readPart_47 (Nat.le_of_ble_eq_true rfl) (Nat.le_of_ble_eq_true rfl) (by first | rfl | exact nar_b _) ?_
      exact kB hk hD2 hR2 (by rw [rPt]; exact ((if_neg e0).trans (if_pos e1))) rfl
    · have e1 : ¬ _ = (110 : Int32) := fun z => e1 ((congrArg Int32.toInt z).trans (by decide : Int32.toInt 110 = (110 : Int)))
      refine ⟨fun e2 => ?_, fun e2 => ?_⟩
      · have e2 := Int32.toInt_inj.mp (e2.trans (by decide : (119 : Int) = Int32.toInt 119))
        show AW X G _ _ 48 _ _ _ _ _
        refine r_aload_n (pc' := 49) h dX0_readPart_48 rfl rfl ?_
        refine r_callV0 (pc' := 52) (M := mX0_readDirection) h hm dX0_readPart_49 rfl lX0_86 vX0_readDirection rfl hD.l113 hD.o113 (Nat.le_of_ble_eq_true rfl) (rrb rfl) (kX0_readDirection hD hrc (fun S3 hD3 hR3 => ?_))
        show AW X G _ _ _ _ _ _ _ _
        refine r_zreturn h hm dX0_readPart_52 (Nat.le_of_ble_eq_true rfl) (Nat.le_of_ble_eq_true rfl) (by first | rfl | exact nar_b _) ?_
        exact kB hk hD3 hR3 (by rw [rPt]; exact ((if_neg e0).trans ((if_neg e1).trans (if_pos e2)))) rfl
      · have e2 : ¬ _ = (119 : Int32) := fun z => e2 ((congrArg Int32.toInt z).trans (by decide : Int32.toInt 119 = (119 : Int)))
        show AW X G _ _ 53 _ _ _ _ _
        refine r_aload_n (pc' := 54) h dX0_readPart_53 rfl rfl ?_
        refine r_iload_n (pc' := 55) h dX0_readPart_54 rfl rfl ?_
        refine r_callV1 (pc' := 58) (M := mX0_readSign) h hm dX0_readPart_55 rfl lX0_43 vX0_readSign rfl hD.l113 hD.o113 (Nat.le_of_ble_eq_true rfl) (rrb rfl) (kX0_readSign hD hrc (fun S4 hD4 hR4 => ?_))
        show AW X G _ _ _ _ _ _ _ _
        refine r_zreturn h hm dX0_readPart_58 (Nat.le_of_ble_eq_true rfl) (Nat.le_of_ble_eq_true rfl) (by first | rfl | exact nar_b _) ?_
        exact kB hk hD4 hR4 (by rw [rPt]; exact ((if_neg e0).trans ((if_neg e1).trans (if_neg e2)))) rfl
theorem kX0_partsOf {l : Launch} {G : GX} {N : Nat} {S : Nat → va_E} {K : RK} {c : Int32} (hk : K (.inl (some (pVl G (pOf c)))) S) : RetK l G N mX0_partsOf (0, 0, 0, 0) [.int c] S K := by
  refine ret_enter (by decide +kernel) (Nat.le_of_ble_eq_true rfl) (fun X hX h hm => ?_)
  subst hX
  replace h : OK X G N cX0_partsOf RX0 1 (0, 0, 0, 0) := h
  replace hm : OKm X G N K (some (.object "java/lang/String")) (0, 0, 0, 0) := hm
  show AW X G 1 N 0 [(0, _)] [] S 0 0
  refine r_iload_n (pc' := 1) h dX0_partsOf_0 rfl rfl ?_
  refine r_tsw h dX0_partsOf_1 [(97, 107), (98, 119), (99, 113), (100, 122), (102, 110), (103, 110), (113, 110), (114, 110), (115, 113), (116, 110), (117, 110), (118, 122), (119, 116)] (by decide) (by decide) (by decide) (by decide) ?_
  refine ⟨fun e0 => ?_, fun e0 => ?_⟩
  · have e0 := Int32.toInt_inj.mp (e0.trans (by decide : (97 : Int) = Int32.toInt 97))
    show AW X G _ _ 108 _ _ _ _ _
    refine r_ldcK (pc' := 110) h (i := 1) rfl dX0_partsOf_108 rfl ?_
    refine r_areturn h hm dX0_partsOf_110 (Nat.le_of_ble_eq_true rfl) (Nat.le_of_ble_eq_true rfl) (Or.inr ⟨_, rfl⟩) ?_
    refine kO hk ?_
    rw [show pOf c = some 1 by rw [pOf, if_pos e0]]
    rfl
  · have e0 : ¬ _ = (97 : Int32) := fun z => e0 ((congrArg Int32.toInt z).trans (by decide : Int32.toInt 97 = (97 : Int)))
    refine ⟨fun e1 => ?_, fun e1 => ?_⟩
    · have e1 := Int32.toInt_inj.mp (e1.trans (by decide : (98 : Int) = Int32.toInt 98))
      show AW X G _ _ 120 _ _ _ _ _
      refine r_ldcK (pc' := 122) h (i := 5) rfl dX0_partsOf_120 rfl ?_
      refine r_areturn h hm dX0_partsOf_122 (Nat.le_of_ble_eq_true rfl) (Nat.le_of_ble_eq_true rfl) (Or.inr ⟨_, rfl⟩) ?_
      refine kO hk ?_
      rw [show pOf c = some 5 by rw [pOf, if_neg e0, if_pos e1]]
      rfl
    · have e1 : ¬ _ = (98 : Int32) := fun z => e1 ((congrArg Int32.toInt z).trans (by decide : Int32.toInt 98 = (98 : Int)))
      refine ⟨fun e2 => ?_, fun e2 => ?_⟩
      · have e2 := Int32.toInt_inj.mp (e2.trans (by decide : (99 : Int) = Int32.toInt 99))
        show AW X G _ _ 114 _ _ _ _ _
        refine r_ldcK (pc' := 116) h (i := 3) rfl dX0_partsOf_114 rfl ?_
        refine r_areturn h hm dX0_partsOf_116 (Nat.le_of_ble_eq_true rfl) (Nat.le_of_ble_eq_true rfl) (Or.inr ⟨_, rfl⟩) ?_
        refine kO hk ?_
        rw [show pOf c = some 3 by rw [pOf, if_neg e0, if_neg e1, if_pos e2]]
        rfl
      · have e2 : ¬ _ = (99 : Int32) := fun z => e2 ((congrArg Int32.toInt z).trans (by decide : Int32.toInt 99 = (99 : Int)))
        refine ⟨fun e3 => ?_, fun e3 => ?_⟩
        · have e3 := Int32.toInt_inj.mp (e3.trans (by decide : (100 : Int) = Int32.toInt 100))
          show AW X G _ _ 123 _ _ _ _ _
          refine r_ldcK (pc' := 125) h (i := 6) rfl dX0_partsOf_123 rfl ?_
          refine r_areturn h hm dX0_partsOf_125 (Nat.le_of_ble_eq_true rfl) (Nat.le_of_ble_eq_true rfl) (Or.inr ⟨_, rfl⟩) ?_
          refine kO hk ?_
          rw [show pOf c = some 6 by rw [pOf, if_neg e0, if_neg e1, if_neg e2, if_pos e3]]
          rfl
        · have e3 : ¬ _ = (100 : Int32) := fun z => e3 ((congrArg Int32.toInt z).trans (by decide : Int32.toInt 100 = (100 : Int)))
          refine ⟨fun e4 => ?_, fun e4 => ?_⟩
          · have e4 := Int32.toInt_inj.mp (e4.trans (by decide : (102 : Int) = Int32.toInt 102))
            show AW X G _ _ 111 _ _ _ _ _
            refine r_ldcK (pc' := 113) h (i := 2) rfl dX0_partsOf_111 rfl ?_
            refine r_areturn h hm dX0_partsOf_113 (Nat.le_of_ble_eq_true rfl) (Nat.le_of_ble_eq_true rfl) (Or.inr ⟨_, rfl⟩) ?_
            refine kO hk ?_
            rw [show pOf c = some 2 by rw [pOf, if_neg e0, if_neg e1, if_neg e2, if_neg e3, if_pos e4]]
            rfl
          · have e4 : ¬ _ = (102 : Int32) := fun z => e4 ((congrArg Int32.toInt z).trans (by decide : Int32.toInt 102 = (102 : Int)))
            refine ⟨fun e5 => ?_, fun e5 => ?_⟩
            · have e5 := Int32.toInt_inj.mp (e5.trans (by decide : (103 : Int) = Int32.toInt 103))
              show AW X G _ _ 111 _ _ _ _ _
              refine r_ldcK (pc' := 113) h (i := 2) rfl dX0_partsOf_111 rfl ?_
              refine r_areturn h hm dX0_partsOf_113 (Nat.le_of_ble_eq_true rfl) (Nat.le_of_ble_eq_true rfl) (Or.inr ⟨_, rfl⟩) ?_
              refine kO hk ?_
              rw [show pOf c = some 2 by rw [pOf, if_neg e0, if_neg e1, if_neg e2, if_neg e3, if_neg e4, if_pos e5]]
              rfl
            · have e5 : ¬ _ = (103 : Int32) := fun z => e5 ((congrArg Int32.toInt z).trans (by decide : Int32.toInt 103 = (103 : Int)))
              refine ⟨fun e6 => ?_, fun e6 => ?_⟩
              · have e6 := Int32.toInt_inj.mp (e6.trans (by decide : (113 : Int) = Int32.toInt 113))
                show AW X G _ _ 111 _ _ _ _ _
                refine r_ldcK (pc' := 113) h (i := 2) rfl dX0_partsOf_111 rfl ?_
                refine r_areturn h hm dX0_partsOf_113 (Nat.le_of_ble_eq_true rfl) (Nat.le_of_ble_eq_true rfl) (Or.inr ⟨_, rfl⟩) ?_
                refine kO hk ?_
                rw [show pOf c = some 2 by rw [pOf, if_neg e0, if_neg e1, if_neg e2, if_neg e3, if_neg e4, if_neg e5, if_pos e6]]
                rfl
              · have e6 : ¬ _ = (113 : Int32) := fun z => e6 ((congrArg Int32.toInt z).trans (by decide : Int32.toInt 113 = (113 : Int)))
                refine ⟨fun e7 => ?_, fun e7 => ?_⟩
                · have e7 := Int32.toInt_inj.mp (e7.trans (by decide : (114 : Int) = Int32.toInt 114))
                  show AW X G _ _ 111 _ _ _ _ _
                  refine r_ldcK (pc' := 113) h (i := 2) rfl dX0_partsOf_111 rfl ?_
                  refine r_areturn h hm dX0_partsOf_113 (Nat.le_of_ble_eq_true rfl) (Nat.le_of_ble_eq_true rfl) (Or.inr ⟨_, rfl⟩) ?_
                  refine kO hk ?_
                  rw [show pOf c = some 2 by rw [pOf, if_neg e0, if_neg e1, if_neg e2, if_neg e3, if_neg e4, if_neg e5, if_neg e6, if_pos e7]]
                  rfl
                · have e7 : ¬ _ = (114 : Int32) := fun z => e7 ((congrArg Int32.toInt z).trans (by decide : Int32.toInt 114 = (114 : Int)))
                  refine ⟨fun e8 => ?_, fun e8 => ?_⟩
                  · have e8 := Int32.toInt_inj.mp (e8.trans (by decide : (115 : Int) = Int32.toInt 115))
                    show AW X G _ _ 114 _ _ _ _ _
                    refine r_ldcK (pc' := 116) h (i := 3) rfl dX0_partsOf_114 rfl ?_
                    refine r_areturn h hm dX0_partsOf_116 (Nat.le_of_ble_eq_true rfl) (Nat.le_of_ble_eq_true rfl) (Or.inr ⟨_, rfl⟩) ?_
                    refine kO hk ?_
                    rw [show pOf c = some 3 by rw [pOf, if_neg e0, if_neg e1, if_neg e2, if_neg e3, if_neg e4, if_neg e5, if_neg e6, if_neg e7, if_pos e8]]
                    rfl
                  · have e8 : ¬ _ = (115 : Int32) := fun z => e8 ((congrArg Int32.toInt z).trans (by decide : Int32.toInt 115 = (115 : Int)))
                    refine ⟨fun e9 => ?_, fun e9 => ?_⟩
                    · have e9 := Int32.toInt_inj.mp (e9.trans (by decide : (116 : Int) = Int32.toInt 116))
                      show AW X G _ _ 111 _ _ _ _ _
                      refine r_ldcK (pc' := 113) h (i := 2) rfl dX0_partsOf_111 rfl ?_
                      refine r_areturn h hm dX0_partsOf_113 (Nat.le_of_ble_eq_true rfl) (Nat.le_of_ble_eq_true rfl) (Or.inr ⟨_, rfl⟩) ?_
                      refine kO hk ?_
                      rw [show pOf c = some 2 by rw [pOf, if_neg e0, if_neg e1, if_neg e2, if_neg e3, if_neg e4, if_neg e5, if_neg e6, if_neg e7, if_neg e8, if_pos e9]]
                      rfl
                    · have e9 : ¬ _ = (116 : Int32) := fun z => e9 ((congrArg Int32.toInt z).trans (by decide : Int32.toInt 116 = (116 : Int)))
                      refine ⟨fun e10 => ?_, fun e10 => ?_⟩
                      · have e10 := Int32.toInt_inj.mp (e10.trans (by decide : (117 : Int) = Int32.toInt 117))
                        show AW X G _ _ 111 _ _ _ _ _
                        refine r_ldcK (pc' := 113) h (i := 2) rfl dX0_partsOf_111 rfl ?_
                        refine r_areturn h hm dX0_partsOf_113 (Nat.le_of_ble_eq_true rfl) (Nat.le_of_ble_eq_true rfl) (Or.inr ⟨_, rfl⟩) ?_
                        refine kO hk ?_
                        rw [show pOf c = some 2 by rw [pOf, if_neg e0, if_neg e1, if_neg e2, if_neg e3, if_neg e4, if_neg e5, if_neg e6, if_neg e7, if_neg e8, if_neg e9, if_pos e10]]
                        rfl
                      · have e10 : ¬ _ = (117 : Int32) := fun z => e10 ((congrArg Int32.toInt z).trans (by decide : Int32.toInt 117 = (117 : Int)))
                        refine ⟨fun e11 => ?_, fun e11 => ?_⟩
                        · have e11 := Int32.toInt_inj.mp (e11.trans (by decide : (118 : Int) = Int32.toInt 118))
                          show AW X G _ _ 123 _ _ _ _ _
                          refine r_ldcK (pc' := 125) h (i := 6) rfl dX0_partsOf_123 rfl ?_
                          refine r_areturn h hm dX0_partsOf_125 (Nat.le_of_ble_eq_true rfl) (Nat.le_of_ble_eq_true rfl) (Or.inr ⟨_, rfl⟩) ?_
                          refine kO hk ?_
                          rw [show pOf c = some 6 by rw [pOf, if_neg e0, if_neg e1, if_neg e2, if_neg e3, if_neg e4, if_neg e5, if_neg e6, if_neg e7, if_neg e8, if_neg e9, if_neg e10, if_pos e11]]
                          rfl
                        · have e11 : ¬ _ = (118 : Int32) := fun z => e11 ((congrArg Int32.toInt z).trans (by decide : Int32.toInt 118 = (118 : Int)))
                          refine ⟨fun e12 => ?_, fun e12 => ?_⟩
                          · have e12 := Int32.toInt_inj.mp (e12.trans (by decide : (119 : Int) = Int32.toInt 119))
                            show AW X G _ _ 117 _ _ _ _ _
                            refine r_ldcK (pc' := 119) h (i := 4) rfl dX0_partsOf_117 rfl ?_
                            refine r_areturn h hm dX0_partsOf_119 (Nat.le_of_ble_eq_true rfl) (Nat.le_of_ble_eq_true rfl) (Or.inr ⟨_, rfl⟩) ?_
                            refine kO hk ?_
                            rw [show pOf c = some 4 by rw [pOf, if_neg e0, if_neg e1, if_neg e2, if_neg e3, if_neg e4, if_neg e5, if_neg e6, if_neg e7, if_neg e8, if_neg e9, if_neg e10, if_neg e11, if_pos e12]]
                            rfl
                          · have e12 : ¬ _ = (119 : Int32) := fun z => e12 ((congrArg Int32.toInt z).trans (by decide : Int32.toInt 119 = (119 : Int)))
                            show AW X G _ _ 126 _ _ _ _ _
                            refine r_null (pc' := 127) h dX0_partsOf_126 rfl ?_
                            refine r_areturn h hm dX0_partsOf_127 (Nat.le_of_ble_eq_true rfl) (Nat.le_of_ble_eq_true rfl) (Or.inl rfl) ?_
                            refine kO hk ?_
                            rw [show pOf c = none by rw [pOf, if_neg e0, if_neg e1, if_neg e2, if_neg e3, if_neg e4, if_neg e5, if_neg e6, if_neg e7, if_neg e8, if_neg e9, if_neg e10, if_neg e11, if_neg e12]]
                            rfl
set_option maxHeartbeats 4000000 in
theorem kX0_readNext {l : Launch} {G : GX} {N : Nat} {S : Nat → va_E} {K : RK} {D : DM} (hD : isD G N S D) (hrc : rowC (dR D 1)) (hk : ∀ S1, isD G N S1 (rNx D).1 → DR S S1 → K (.inl (some (.int (b2i (rNx D).2)))) S1) : RetK l G N mX0_readNext (5, 106, 0, 0) [.ref (ad G 113)] S K := by
  refine ret_enter (by decide +kernel) (Nat.le_of_ble_eq_true rfl) (fun X hX h hm => ?_)
  subst hX
  replace h : OK X G N cX0_readNext RX0 3 (5, 106, 0, 0) := h
  replace hm : OKm X G N K (some .boolean) (5, 106, 0, 0) := hm
  show AW X G 3 N 0 [(0, _)] [] S 0 0
  refine r_aload_n (pc' := 1) h dX0_readNext_0 rfl rfl ?_
  refine gX0_22 (pc' := 4) h dX0_readNext_1 rfl hD.l113 hD.o113 rfl ?_
  refine r_if_le (tgt := 18) (pc' := 7) h dX0_readNext_4 (by decide) rfl (fun c0 => ?_) (fun c0 => ?_)
  · have eN : rN1 D = (D, true) := by rw [rN1]; exact if_pos c0
    refine r_aload_n (pc' := 19) h dX0_readNext_18 rfl rfl ?_
    refine gX0_12 (pc' := 22) h dX0_readNext_19 rfl hD.l113 hD.o113 rfl ?_
    refine r_aload_n (pc' := 23) h dX0_readNext_22 rfl rfl ?_
    refine gX0_22 (pc' := 26) h dX0_readNext_23 rfl hD.l113 hD.o113 rfl ?_
    refine r_callV1 (pc' := 29) (M := mX3_signAt) h hm dX0_readNext_26 rfl lX0_47 vX3_signAt rfl hD.t1.l0 hD.t1.o (Nat.le_of_ble_eq_true rfl) (rrb rfl) (kX3_signAt hD.t1 hrc ?_)
    show AW X G _ _ _ _ _ _ _ _
    refine r_callS1 (pc' := 32) (M := mX0_partsOf) h hm dX0_readNext_29 rfl lX0_51 vX0_partsOf (Nat.le_of_ble_eq_true rfl) (rrb rfl) (kX0_partsOf ?_)
    show AW X G _ _ _ _ _ _ _ _
    cases hp : pOf (rSg D) with
    | none =>
      refine aw_st (st' := [.null]) (congrArg (fun z => [pVl G z]) hp) ?_
      refine r_nstoren (j := 1) (pc' := 33) h rfl dX0_readNext_32 rfl (by decide) rfl ?_
      refine r_nload_n (pc' := 34) h dX0_readNext_33 rfl rfl ?_
      refine r_ifnonnullN (pc' := 37) h dX0_readNext_34 rfl ?_
      refine r_iconst (pc' := 38) (v := 0) h dX0_readNext_37 rfl (by decide) ?_
      refine r_zreturn h hm dX0_readNext_38 (Nat.le_of_ble_eq_true rfl) (Nat.le_of_ble_eq_true rfl) (by first | rfl | exact nar_b _) ?_
      exact kB hk hD DR.rfl' (by rw [rNx, eN]; simp only [if_true, hp]) (v := false) rfl
    | some i =>
      have hi : i < 7 := pOf_lt hp
      refine aw_st (st' := [.ref (gK G i)]) (congrArg (fun z => [pVl G z]) hp) ?_
      refine r_astoren (j := 1) (pc' := 33) h rfl dX0_readNext_32 rfl (by decide) rfl ?_
      refine r_aload_n (pc' := 34) h dX0_readNext_33 rfl rfl ?_
      refine r_ifnonnull (tgt := 39) h dX0_readNext_34 (by decide) ?_
      refine r_aload_n (pc' := 40) h dX0_readNext_39 rfl rfl ?_
      refine r_aload_n (pc' := 41) h dX0_readNext_40 rfl rfl ?_
      refine gX0_12 (pc' := 44) h dX0_readNext_41 rfl hD.l113 hD.o113 rfl ?_
      refine r_aload_n (pc' := 45) h dX0_readNext_44 rfl rfl ?_
      refine gX0_22 (pc' := 48) h dX0_readNext_45 rfl hD.l113 hD.o113 rfl ?_
      refine r_callV1 (pc' := 51) (M := mX3_signAt) h hm dX0_readNext_48 rfl lX0_47 vX3_signAt rfl hD.t1.l0 hD.t1.o (Nat.le_of_ble_eq_true rfl) (rrb rfl) (kX3_signAt hD.t1 hrc ?_)
      show AW X G _ _ _ _ _ _ _ _
      refine pX0_55 (pc' := 54) h dX0_readNext_51 rfl hD.l113 hD.o113 (Nat.le_of_ble_eq_true rfl) (isCh_SigD hrc).1 (isCh_SigD hrc).2 ?_
      refine wD9 hD (fun S1 hD1 hR1 => ?_)
      refine r_aload_n (pc' := 55) h dX0_readNext_54 rfl rfl ?_
      refine r_dup (pc' := 56) h dX0_readNext_55 rfl rfl ?_
      refine gX0_22 (pc' := 59) h dX0_readNext_56 rfl hD1.l113 hD1.o113 rfl ?_
      refine r_iconst (pc' := 60) (v := 1) h dX0_readNext_59 rfl (by decide) ?_
      refine r_iadd (pc' := 61) h dX0_readNext_60 rfl ?_
      refine pX0_22 (pc' := 64) h dX0_readNext_61 rfl hD1.l113 hD1.o113 (Nat.le_of_ble_eq_true rfl) ?_
      refine wD8 hD1 (fun S2 hD2 hR2 => ?_)
      refine r_aload_n (pc' := 65) h dX0_readNext_64 rfl rfl ?_
      refine r_iconst (pc' := 66) (v := 0) h dX0_readNext_65 rfl (by decide) ?_
      refine pX0_26 (pc' := 69) h dX0_readNext_66 rfl hD2.l113 hD2.o113 (Nat.le_of_ble_eq_true rfl) ?_
      refine wD7 hD2 (fun S3 hD3 hR3 => ?_)
      refine r_iconst (pc' := 70) (v := 0) h dX0_readNext_69 rfl (by decide) ?_
      refine r_istoren (j := 2) (pc' := 71) h rfl dX0_readNext_70 rfl (by decide) rfl ?_
      have loop : ∀ (n j : Nat), j ≤ sLn i → sLn i - j < n → ∀ (Sj : Nat → va_E) (D1 : DM), isD G N Sj D1 → DR S Sj → rowC (dR D1 1) → rPs i j (sLn i - j) D1 = rPs i 0 (sLn i) (rN2 D) → AW X G 3 N 71 [(0, .ref (ad G 113)), (1, .ref (gK G i)), (2, .int (nI j))] [] Sj 0 0 := by
        intro n
        induction n with
        | zero => intro j h1 h2; exact absurd h2 (by omega)
        | succ n ih =>
          intro j h1 h2 Sj D1 hj1 hr1 hc1 hv
          refine r_iload_n (pc' := 72) h dX0_readNext_71 rfl rfl ?_
          refine r_aload_n (pc' := 73) h dX0_readNext_72 rfl rfl ?_
          refine r_callVK (As := []) (pc' := 76) (M := mJ0_length) h hm dX0_readNext_73 rfl lX0_59 vJ0_length hi rfl rfl (Nat.le_of_ble_eq_true rfl) (rrb rfl) (kJ0_length hi ?_)
          show AW X G _ _ _ _ _ _ _ _
          refine r_icmp_ge (tgt := 99) (pc' := 79) h dX0_readNext_76 (by decide) rfl (fun c1 => ?_) (fun c1 => ?_)
          · have ej := lp_ge (c := sLn i) rfl (sLn_lt i hi) h1 c1
            subst ej
            refine r_iconst (pc' := 100) (v := 1) h dX0_readNext_99 rfl (by decide) ?_
            refine r_zreturn h hm dX0_readNext_100 (Nat.le_of_ble_eq_true rfl) (Nat.le_of_ble_eq_true rfl) (by first | rfl | exact nar_b _) ?_
            have e8 : rNx D = rPs i 0 (sLn i) (rN2 D) := by rw [rNx, eN]; simp only [if_true, hp]
            exact kB hk hj1 hr1 (by rw [e8, ← hv, Nat.sub_self]; rfl) (v := true) rfl
          · have hj := lp_lt (c := sLn i) rfl (sLn_lt i hi) h1 c1
            refine r_aload_n (pc' := 80) h dX0_readNext_79 rfl rfl ?_
            refine r_aload_n (pc' := 81) h dX0_readNext_80 rfl rfl ?_
            refine r_iload_n (pc' := 82) h dX0_readNext_81 rfl rfl ?_
            refine r_callVK (As := [.int (nI j)]) (pc' := 85) (M := mJ0_charAt) h hm dX0_readNext_82 rfl lX0_64 vJ0_charAt hi rfl rfl (Nat.le_of_ble_eq_true rfl) (rrb rfl) (kJ0_charAt hi hj ?_)
            show AW X G _ _ _ _ _ _ _ _
            refine r_callV1 (pc' := 88) (M := mX0_readPart) h hm dX0_readNext_85 rfl lX0_67 vX0_readPart rfl hj1.l113 hj1.o113 (Nat.le_of_ble_eq_true rfl) (rrb rfl) (kX0_readPart hj1 hc1 (fun S4 hD4 hR4 => ?_))
            have hrc4 := (Sm_Pt D1 (sCh i j)).row hc1
            show AW X G _ _ _ _ _ _ _ _
            refine r_if_neb (tgt := 93) (pc' := 91) h dX0_readNext_88 (by decide) rfl (fun c2 => ?_) (fun c2 => ?_)
            · refine r_iinc (pc' := 96) (v := 1) h dX0_readNext_93 rfl (by decide) (by decide) rfl rfl ?_
              refine r_goto (tgt := 71) h dX0_readNext_96 (by decide) ?_
              refine aw_cast (by simp [nI_1]; done) (ih (j + 1) (by omega) (by omega) _ _ hD4 ((hr1).trans hR4) hrc4 ?_)
              rw [← hv, show sLn i - j = (sLn i - (j + 1)) + 1 by omega, rPs]; exact (if_pos c2).symm
            · refine r_iconst (pc' := 92) (v := 0) h dX0_readNext_91 rfl (by decide) ?_
              refine r_zreturn h hm dX0_readNext_92 (Nat.le_of_ble_eq_true rfl) (Nat.le_of_ble_eq_true rfl) (by first | rfl | exact nar_b _) ?_
              have e8 : rNx D = rPs i 0 (sLn i) (rN2 D) := by rw [rNx, eN]; simp only [if_true, hp]
              exact kB hk hD4 ((hr1).trans hR4) (by rw [e8, ← hv, show sLn i - j = (sLn i - (j + 1)) + 1 by omega, rPs]; exact if_neg (fun z => absurd (z.symm.trans c2) (by decide))) (v := false) rfl
      exact loop (sLn i + 1) 0 (Nat.zero_le _) (by omega) _ _ hD3 (((hR1).trans hR2).trans hR3) ((Sm_N2 D).row hrc) rfl
  · refine r_aload_n (pc' := 8) h dX0_readNext_7 rfl rfl ?_
    refine r_bipush (pc' := 10) (v := 59) h dX0_readNext_8 rfl (by decide) ?_
    refine r_callV1 (pc' := 13) (M := mX0_readSign) h hm dX0_readNext_10 rfl lX0_43 vX0_readSign rfl hD.l113 hD.o113 (Nat.le_of_ble_eq_true rfl) (rrb rfl) (kX0_readSign hD hrc (fun S5 hD5 hR5 => ?_))
    show AW X G _ _ _ _ _ _ _ _
    refine r_if_neb (tgt := 18) (pc' := 16) h dX0_readNext_13 (by decide) rfl (fun c3 => ?_) (fun c3 => ?_)
    · have eN : rN1 D = ((rSn D 59).1, true) := by rw [rN1]; exact (if_neg c0).trans (Prod.ext rfl c3)
      have hrcN := (Sm_Sn D 59).row hrc
      refine r_aload_n (pc' := 19) h dX0_readNext_18 rfl rfl ?_
      refine gX0_12 (pc' := 22) h dX0_readNext_19 rfl hD5.l113 hD5.o113 rfl ?_
      refine r_aload_n (pc' := 23) h dX0_readNext_22 rfl rfl ?_
      refine gX0_22 (pc' := 26) h dX0_readNext_23 rfl hD5.l113 hD5.o113 rfl ?_
      refine r_callV1 (pc' := 29) (M := mX3_signAt) h hm dX0_readNext_26 rfl lX0_47 vX3_signAt rfl hD5.t1.l0 hD5.t1.o (Nat.le_of_ble_eq_true rfl) (rrb rfl) (kX3_signAt hD5.t1 hrcN ?_)
      show AW X G _ _ _ _ _ _ _ _
      refine r_callS1 (pc' := 32) (M := mX0_partsOf) h hm dX0_readNext_29 rfl lX0_51 vX0_partsOf (Nat.le_of_ble_eq_true rfl) (rrb rfl) (kX0_partsOf ?_)
      show AW X G _ _ _ _ _ _ _ _
      cases hp : pOf (rSg (rSn D 59).1) with
      | none =>
        refine aw_st (st' := [.null]) (congrArg (fun z => [pVl G z]) hp) ?_
        refine r_nstoren (j := 1) (pc' := 33) h rfl dX0_readNext_32 rfl (by decide) rfl ?_
        refine r_nload_n (pc' := 34) h dX0_readNext_33 rfl rfl ?_
        refine r_ifnonnullN (pc' := 37) h dX0_readNext_34 rfl ?_
        refine r_iconst (pc' := 38) (v := 0) h dX0_readNext_37 rfl (by decide) ?_
        refine r_zreturn h hm dX0_readNext_38 (Nat.le_of_ble_eq_true rfl) (Nat.le_of_ble_eq_true rfl) (by first | rfl | exact nar_b _) ?_
        exact kB hk hD5 hR5 (by rw [rNx, eN]; simp only [if_true, hp]) (v := false) rfl
      | some i =>
        have hi : i < 7 := pOf_lt hp
        refine aw_st (st' := [.ref (gK G i)]) (congrArg (fun z => [pVl G z]) hp) ?_
        refine r_astoren (j := 1) (pc' := 33) h rfl dX0_readNext_32 rfl (by decide) rfl ?_
        refine r_aload_n (pc' := 34) h dX0_readNext_33 rfl rfl ?_
        refine r_ifnonnull (tgt := 39) h dX0_readNext_34 (by decide) ?_
        refine r_aload_n (pc' := 40) h dX0_readNext_39 rfl rfl ?_
        refine r_aload_n (pc' := 41) h dX0_readNext_40 rfl rfl ?_
        refine gX0_12 (pc' := 44) h dX0_readNext_41 rfl hD5.l113 hD5.o113 rfl ?_
        refine r_aload_n (pc' := 45) h dX0_readNext_44 rfl rfl ?_
        refine gX0_22 (pc' := 48) h dX0_readNext_45 rfl hD5.l113 hD5.o113 rfl ?_
        refine r_callV1 (pc' := 51) (M := mX3_signAt) h hm dX0_readNext_48 rfl lX0_47 vX3_signAt rfl hD5.t1.l0 hD5.t1.o (Nat.le_of_ble_eq_true rfl) (rrb rfl) (kX3_signAt hD5.t1 hrcN ?_)
        show AW X G _ _ _ _ _ _ _ _
        refine pX0_55 (pc' := 54) h dX0_readNext_51 rfl hD5.l113 hD5.o113 (Nat.le_of_ble_eq_true rfl) (isCh_SigD hrcN).1 (isCh_SigD hrcN).2 ?_
        refine wD9 hD5 (fun S6 hD6 hR6 => ?_)
        refine r_aload_n (pc' := 55) h dX0_readNext_54 rfl rfl ?_
        refine r_dup (pc' := 56) h dX0_readNext_55 rfl rfl ?_
        refine gX0_22 (pc' := 59) h dX0_readNext_56 rfl hD6.l113 hD6.o113 rfl ?_
        refine r_iconst (pc' := 60) (v := 1) h dX0_readNext_59 rfl (by decide) ?_
        refine r_iadd (pc' := 61) h dX0_readNext_60 rfl ?_
        refine pX0_22 (pc' := 64) h dX0_readNext_61 rfl hD6.l113 hD6.o113 (Nat.le_of_ble_eq_true rfl) ?_
        refine wD8 hD6 (fun S7 hD7 hR7 => ?_)
        refine r_aload_n (pc' := 65) h dX0_readNext_64 rfl rfl ?_
        refine r_iconst (pc' := 66) (v := 0) h dX0_readNext_65 rfl (by decide) ?_
        refine pX0_26 (pc' := 69) h dX0_readNext_66 rfl hD7.l113 hD7.o113 (Nat.le_of_ble_eq_true rfl) ?_
        refine wD7 hD7 (fun S8 hD8 hR8 => ?_)
        refine r_iconst (pc' := 70) (v := 0) h dX0_readNext_69 rfl (by decide) ?_
        refine r_istoren (j := 2) (pc' := 71) h rfl dX0_readNext_70 rfl (by decide) rfl ?_
        have loop : ∀ (n j : Nat), j ≤ sLn i → sLn i - j < n → ∀ (Sj : Nat → va_E) (D1 : DM), isD G N Sj D1 → DR S Sj → rowC (dR D1 1) → rPs i j (sLn i - j) D1 = rPs i 0 (sLn i) (rN2 (rSn D 59).1) → AW X G 3 N 71 [(0, .ref (ad G 113)), (1, .ref (gK G i)), (2, .int (nI j))] [] Sj 0 0 := by
          intro n
          induction n with
          | zero => intro j h1 h2; exact absurd h2 (by omega)
          | succ n ih =>
            intro j h1 h2 Sj D1 hj1 hr1 hc1 hv
            refine r_iload_n (pc' := 72) h dX0_readNext_71 rfl rfl ?_
            refine r_aload_n (pc' := 73) h dX0_readNext_72 rfl rfl ?_
            refine r_callVK (As := []) (pc' := 76) (M := mJ0_length) h hm dX0_readNext_73 rfl lX0_59 vJ0_length hi rfl rfl (Nat.le_of_ble_eq_true rfl) (rrb rfl) (kJ0_length hi ?_)
            show AW X G _ _ _ _ _ _ _ _
            refine r_icmp_ge (tgt := 99) (pc' := 79) h dX0_readNext_76 (by decide) rfl (fun c4 => ?_) (fun c4 => ?_)
            · have ej := lp_ge (c := sLn i) rfl (sLn_lt i hi) h1 c4
              subst ej
              refine r_iconst (pc' := 100) (v := 1) h dX0_readNext_99 rfl (by decide) ?_
              refine r_zreturn h hm dX0_readNext_100 (Nat.le_of_ble_eq_true rfl) (Nat.le_of_ble_eq_true rfl) (by first | rfl | exact nar_b _) ?_
              have e8 : rNx D = rPs i 0 (sLn i) (rN2 (rSn D 59).1) := by rw [rNx, eN]; simp only [if_true, hp]
              exact kB hk hj1 hr1 (by rw [e8, ← hv, Nat.sub_self]; rfl) (v := true) rfl
            · have hj := lp_lt (c := sLn i) rfl (sLn_lt i hi) h1 c4
              refine r_aload_n (pc' := 80) h dX0_readNext_79 rfl rfl ?_
              refine r_aload_n (pc' := 81) h dX0_readNext_80 rfl rfl ?_
              refine r_iload_n (pc' := 82) h dX0_readNext_81 rfl rfl ?_
              refine r_callVK (As := [.int (nI j)]) (pc' := 85) (M := mJ0_charAt) h hm dX0_readNext_82 rfl lX0_64 vJ0_charAt hi rfl rfl (Nat.le_of_ble_eq_true rfl) (rrb rfl) (kJ0_charAt hi hj ?_)
              show AW X G _ _ _ _ _ _ _ _
              refine r_callV1 (pc' := 88) (M := mX0_readPart) h hm dX0_readNext_85 rfl lX0_67 vX0_readPart rfl hj1.l113 hj1.o113 (Nat.le_of_ble_eq_true rfl) (rrb rfl) (kX0_readPart hj1 hc1 (fun S9 hD9 hR9 => ?_))
              have hrc9 := (Sm_Pt D1 (sCh i j)).row hc1
              show AW X G _ _ _ _ _ _ _ _
              refine r_if_neb (tgt := 93) (pc' := 91) h dX0_readNext_88 (by decide) rfl (fun c5 => ?_) (fun c5 => ?_)
              · refine r_iinc (pc' := 96) (v := 1) h dX0_readNext_93 rfl (by decide) (by decide) rfl rfl ?_
                refine r_goto (tgt := 71) h dX0_readNext_96 (by decide) ?_
                refine aw_cast (by simp [nI_1]; done) (ih (j + 1) (by omega) (by omega) _ _ hD9 ((hr1).trans hR9) hrc9 ?_)
                rw [← hv, show sLn i - j = (sLn i - (j + 1)) + 1 by omega, rPs]; exact (if_pos c5).symm
              · refine r_iconst (pc' := 92) (v := 0) h dX0_readNext_91 rfl (by decide) ?_
                refine r_zreturn h hm dX0_readNext_92 (Nat.le_of_ble_eq_true rfl) (Nat.le_of_ble_eq_true rfl) (by first | rfl | exact nar_b _) ?_
                have e8 : rNx D = rPs i 0 (sLn i) (rN2 (rSn D 59).1) := by rw [rNx, eN]; simp only [if_true, hp]
                exact kB hk hD9 ((hr1).trans hR9) (by rw [e8, ← hv, show sLn i - j = (sLn i - (j + 1)) + 1 by omega, rPs]; exact if_neg (fun z => absurd (z.symm.trans c5) (by decide))) (v := false) rfl
        exact loop (sLn i + 1) 0 (Nat.zero_le _) (by omega) _ _ hD8 ((((hR5).trans hR6).trans hR7).trans hR8) ((Sm_N2 (rSn D 59).1).row hrcN) rfl
    · refine r_iconst (pc' := 17) (v := 0) h dX0_readNext_16 rfl (by decide) ?_
      refine r_zreturn h hm dX0_readNext_17 (Nat.le_of_ble_eq_true rfl) (Nat.le_of_ble_eq_true rfl) (by first | rfl | exact nar_b _) ?_
      exact kB hk hD5 hR5 (by rw [rNx, rN1, if_neg c0, if_neg (fun z => absurd (z.symm.trans c3) (by decide))]) (v := false) rfl
theorem kX0_countCommands {l : Launch} {G : GX} {N : Nat} {S : Nat → va_E} {K : RK} {D : DM} (hD : isD G N S D) (hrc : rowC (dR D 1)) (hk : ∀ S1, isD G N S1 (rCc D).1 → DR S S1 → K (.inl (some (.int (rCc D).2))) S1) : RetK l G N mX0_countCommands (6, 128, 0, 0) [.ref (ad G 113)] S K := by
  refine ret_enter (by decide +kernel) (Nat.le_of_ble_eq_true rfl) (fun X hX h hm => ?_)
  subst hX
  replace h : OK X G N cX0_countCommands RX0 2 (6, 128, 0, 0) := h
  replace hm : OKm X G N K (some .int) (6, 128, 0, 0) := hm
  show AW X G 2 N 0 [(0, _)] [] S 0 0
  refine r_aload_n (pc' := 1) h dX0_countCommands_0 rfl rfl ?_
  refine r_callV0 (pc' := 4) (M := mX0_restart) h hm dX0_countCommands_1 rfl lX0_33 vX0_restart rfl hD.l113 hD.o113 (Nat.le_of_ble_eq_true rfl) (rrb rfl) (kX0_restart hD (fun S1 hD1 hR1 => ?_))
  show AW X G _ _ _ _ _ _ _ _
  refine r_iconst (pc' := 5) (v := 1) h dX0_countCommands_4 rfl (by decide) ?_
  refine r_istoren (j := 1) (pc' := 6) h rfl dX0_countCommands_5 rfl (by decide) rfl ?_
  have loop : ∀ (n j : Nat), j ≤ 61 → 61 - j < n → ∀ (Sj : Nat → va_E) (D1 : DM), isD G N Sj D1 → DR S Sj → rowC (dR D1 1) → rCt j (61 - j) D1 = rCc D → AW X G 2 N 6 [(0, .ref (ad G 113)), (1, .int (nI j))] [] Sj 0 0 := by
    intro n
    induction n with
    | zero => intro j h1 h2; exact absurd h2 (by omega)
    | succ n ih =>
      intro j h1 h2 Sj D1 hj1 hr1 hc1 hv
      refine r_iload_n (pc' := 7) h dX0_countCommands_6 rfl rfl ?_
      refine r_bipush (pc' := 9) (v := 60) h dX0_countCommands_7 rfl (by decide) ?_
      refine r_icmp_gt (tgt := 43) (pc' := 12) h dX0_countCommands_9 (by decide) rfl (fun c0 => ?_) (fun c0 => ?_)
      · have ej : j = 61 := by have := (nI_ltI (a := 60) (b := j) (by decide) (by omega)).mp c0; omega
        refine r_iconst (pc' := 44) (v := 0) h dX0_countCommands_43 rfl (by decide) ?_
        refine r_ireturn h hm dX0_countCommands_44 (Nat.le_of_ble_eq_true rfl) (Nat.le_of_ble_eq_true rfl) ?_
        exact kN hk hj1 hr1 (by rw [← hv, ej]; rfl)
      · have hj : j < 61 := by have := mt (nI_ltI (a := 60) (b := j) (by decide) (by omega)).mpr c0; omega
        refine r_aload_n (pc' := 13) h dX0_countCommands_12 rfl rfl ?_
        refine r_callV0 (pc' := 16) (M := mX0_readNext) h hm dX0_countCommands_13 rfl lX0_36 vX0_readNext rfl hj1.l113 hj1.o113 (Nat.le_of_ble_eq_true rfl) (rrb rfl) (kX0_readNext hj1 hc1 (fun S2 hD2 hR2 => ?_))
        have hrc2 := (Sm_Nx _).row hc1
        show AW X G _ _ _ _ _ _ _ _
        refine r_if_neb (tgt := 21) (pc' := 19) h dX0_countCommands_16 (by decide) rfl (fun c1 => ?_) (fun c1 => ?_)
        · refine r_aload_n (pc' := 22) h dX0_countCommands_21 rfl rfl ?_
          refine gX0_22 (pc' := 25) h dX0_countCommands_22 rfl hD2.l113 hD2.o113 rfl ?_
          refine r_aload_n (pc' := 26) h dX0_countCommands_25 rfl rfl ?_
          refine gX0_12 (pc' := 29) h dX0_countCommands_26 rfl hD2.l113 hD2.o113 rfl ?_
          refine gX0_40 (pc' := 32) h dX0_countCommands_29 rfl hD2.t1.l0 hD2.t1.o rfl ?_
          refine r_icmp_lt (tgt := 37) (pc' := 35) h dX0_countCommands_32 (by decide) rfl (fun c2 => ?_) (fun c2 => ?_)
          · refine r_iinc (pc' := 40) (v := 1) h dX0_countCommands_37 rfl (by decide) (by decide) rfl rfl ?_
            refine r_goto (tgt := 6) h dX0_countCommands_40 (by decide) ?_
            refine aw_cast (by simp [nI_1]; done) (ih (j + 1) (by omega) (by omega) _ _ hD2 ((hr1).trans hR2) hrc2 ?_)
            rw [← hv, show 61 - j = (61 - (j + 1)) + 1 by omega, rCt, if_pos c1]; exact (if_neg (Int32.not_le.mpr c2)).symm
          · refine r_iload_n (pc' := 36) h dX0_countCommands_35 rfl rfl ?_
            refine r_ireturn h hm dX0_countCommands_36 (Nat.le_of_ble_eq_true rfl) (Nat.le_of_ble_eq_true rfl) ?_
            exact kN hk hD2 ((hr1).trans hR2) (by rw [← hv, show 61 - j = (61 - (j + 1)) + 1 by omega, rCt, if_pos c1]; exact if_pos (Int32.not_lt.mp c2))
        · refine r_iconst (pc' := 20) (v := 0) h dX0_countCommands_19 rfl (by decide) ?_
          refine r_ireturn h hm dX0_countCommands_20 (Nat.le_of_ble_eq_true rfl) (Nat.le_of_ble_eq_true rfl) ?_
          exact kN hk hD2 ((hr1).trans hR2) (by rw [← hv, show 61 - j = (61 - (j + 1)) + 1 by omega, rCt]; exact if_neg (fun z => absurd (z.symm.trans c1) (by decide)))
  exact loop 61 1 (by decide) (by decide) _ _ hD1 hR1 hrc rfl
