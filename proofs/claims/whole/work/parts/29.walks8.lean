/-! THE WALKS: the reference's text, parser, commands. -/
theorem kX5_writes {l : Launch} {G : GX} {N : Nat} {S : Nat → va_E} {K : RK} {Q : MM} (hQ : isM G N S Q) {c : Int32} (h9 : vp_in (mI Q 9) 40) (hk : ∀ S1, isM G N S1 (qWr Q c) → GR S S1 → K (.inl none) S1) : RetK l G N mX5_writes (0, 0, 0, 0) [.ref (ad G 119), .int c] S K := by
  refine ret_enter (by decide +kernel) (Nat.le_of_ble_eq_true rfl) (fun X hX h hm => ?_)
  subst hX
  replace h : OK X G N cX5_writes RX5 2 (0, 0, 0, 0) := h
  replace hm : OKm X G N K none (0, 0, 0, 0) := hm
  show AW X G 2 N 0 [(0, _), (1, _)] [] S 0 0
  refine r_aload_n (pc' := 1) h dX5_writes_0 rfl rfl ?_
  refine gX5_13 (pc' := 4) h dX5_writes_1 rfl hQ.l0 hQ.o rfl ?_
  refine r_aload_n (pc' := 5) h dX5_writes_4 rfl rfl ?_
  refine gX5_187 (pc' := 8) h dX5_writes_5 rfl hQ.l0 hQ.o rfl ?_
  refine r_iload_n (pc' := 9) h dX5_writes_8 rfl rfl ?_
  refine r_i2c (pc' := 10) h dX5_writes_9 rfl ?_
  refine r_cast (pc' := 11) h dX5_writes_10 rfl hQ.l2 hQ.r2 h9 ?_
  refine wU1 hQ (fun S1 hQ1 hR1 => ?_)
  refine r_aload_n (pc' := 12) h dX5_writes_11 rfl rfl ?_
  refine r_dup (pc' := 13) h dX5_writes_12 rfl rfl ?_
  refine gX5_187 (pc' := 16) h dX5_writes_13 rfl hQ1.l0 hQ1.o rfl ?_
  refine r_iconst (pc' := 17) (v := 1) h dX5_writes_16 rfl (by decide) ?_
  refine r_iadd (pc' := 18) h dX5_writes_17 rfl ?_
  refine pX5_187 (pc' := 21) h dX5_writes_18 rfl hQ1.l0 hQ1.o (Nat.le_of_ble_eq_true rfl) ?_
  refine wM9 hQ1 (fun S2 hQ2 hR2 => ?_)
  refine r_return h hm dX5_writes_21 (Nat.le_of_ble_eq_true rfl) (Nat.le_of_ble_eq_true rfl) ?_
  exact hk _ (by have e9 := hQ2; rw [pk_vc] at e9; exact e9) ((hR1).trans hR2)
theorem kX5_writesNumber1 {l : Launch} {G : GX} {N : Nat} {S : Nat → va_E} {K : RK} {Q : MM} (hQ : isM G N S Q) {v : Int32} (h9 : vp_in (mI Q 9) 40) (hv : v ≤ 9) (hk : ∀ S1, isM G N S1 (qWd Q v) → GR S S1 → K (.inl none) S1) : RetK l G N mX5_writesNumber (1, 21, 0, 0) [.ref (ad G 119), .int v] S K := by
  refine ret_enter (by decide +kernel) (Nat.le_of_ble_eq_true rfl) (fun X hX h hm => ?_)
  subst hX
  replace h : OK X G N cX5_writesNumber RX5 2 (1, 21, 0, 0) := h
  replace hm : OKm X G N K none (1, 21, 0, 0) := hm
  show AW X G 2 N 0 [(0, _), (1, _)] [] S 0 0
  refine r_iload_n (pc' := 1) h dX5_writesNumber_0 rfl rfl ?_
  refine r_bipush (pc' := 3) (v := 9) h dX5_writesNumber_1 rfl (by decide) ?_
  refine r_icmp_le (tgt := 14) (pc' := 6) h dX5_writesNumber_3 (by decide) rfl (fun c0 => ?_) (fun c0 => ?_)
  · try simp only [mM_sI, mM_sM] at c0
    refine r_aload_n (pc' := 15) h dX5_writesNumber_14 rfl rfl ?_
    refine r_bipush (pc' := 17) (v := 48) h dX5_writesNumber_15 rfl (by decide) ?_
    refine r_iload_n (pc' := 18) h dX5_writesNumber_17 rfl rfl ?_
    refine r_bipush (pc' := 20) (v := 10) h dX5_writesNumber_18 rfl (by decide) ?_
    refine r_irem (pc' := 21) h dX5_writesNumber_20 rfl (by decide) ?_
    refine r_iadd (pc' := 22) h dX5_writesNumber_21 rfl ?_
    refine r_callV1 (pc' := 25) (M := mX5_writes) h hm dX5_writesNumber_22 rfl lX5_194 vX5_writes rfl hQ.l0 hQ.o (Nat.le_of_ble_eq_true rfl) (rrb rfl) (kX5_writes hQ (h9) (fun S1 hQ1 hR1 => ?_))
    show AW X G _ _ _ _ _ _ _ _
    refine r_return h hm dX5_writesNumber_25 (Nat.le_of_ble_eq_true rfl) (Nat.le_of_ble_eq_true rfl) ?_
    exact hk _ hQ1 hR1
  · try simp only [mM_sI, mM_sM] at c0
    exact absurd hv c0
theorem kX5_writesNumber {l : Launch} {G : GX} {N : Nat} {S : Nat → va_E} {K : RK} {Q : MM} (hQ : isM G N S Q) {v : Int32} {p : Nat} (h9 : mI Q 9 = nI p) (hp : p + 2 ≤ 40) (hv : v / 10 ≤ 9) (hk : ∀ S1, isM G N S1 (qWn Q v) → GR S S1 → K (.inl none) S1) : RetK l G N mX5_writesNumber (4, 84, 0, 0) [.ref (ad G 119), .int v] S K := by
  refine ret_enter (by decide +kernel) (Nat.le_of_ble_eq_true rfl) (fun X hX h hm => ?_)
  subst hX
  replace h : OK X G N cX5_writesNumber RX5 2 (4, 84, 0, 0) := h
  replace hm : OKm X G N K none (4, 84, 0, 0) := hm
  show AW X G 2 N 0 [(0, _), (1, _)] [] S 0 0
  refine r_iload_n (pc' := 1) h dX5_writesNumber_0 rfl rfl ?_
  refine r_bipush (pc' := 3) (v := 9) h dX5_writesNumber_1 rfl (by decide) ?_
  refine r_icmp_le (tgt := 14) (pc' := 6) h dX5_writesNumber_3 (by decide) rfl (fun c0 => ?_) (fun c0 => ?_)
  · try simp only [mM_sI, mM_sM] at c0
    refine r_aload_n (pc' := 15) h dX5_writesNumber_14 rfl rfl ?_
    refine r_bipush (pc' := 17) (v := 48) h dX5_writesNumber_15 rfl (by decide) ?_
    refine r_iload_n (pc' := 18) h dX5_writesNumber_17 rfl rfl ?_
    refine r_bipush (pc' := 20) (v := 10) h dX5_writesNumber_18 rfl (by decide) ?_
    refine r_irem (pc' := 21) h dX5_writesNumber_20 rfl (by decide) ?_
    refine r_iadd (pc' := 22) h dX5_writesNumber_21 rfl ?_
    refine r_callV1 (pc' := 25) (M := mX5_writes) h hm dX5_writesNumber_22 rfl lX5_194 vX5_writes rfl hQ.l0 hQ.o (Nat.le_of_ble_eq_true rfl) (rrb rfl) (kX5_writes hQ (in_40 h9 (by omega) (by decide)) (fun S1 hQ1 hR1 => ?_))
    show AW X G _ _ _ _ _ _ _ _
    refine r_return h hm dX5_writesNumber_25 (Nat.le_of_ble_eq_true rfl) (Nat.le_of_ble_eq_true rfl) ?_
    exact hk _ (by rw [qWn, if_pos c0]; exact hQ1) hR1
  · try simp only [mM_sI, mM_sM] at c0
    refine r_aload_n (pc' := 7) h dX5_writesNumber_6 rfl rfl ?_
    refine r_iload_n (pc' := 8) h dX5_writesNumber_7 rfl rfl ?_
    refine r_bipush (pc' := 10) (v := 10) h dX5_writesNumber_8 rfl (by decide) ?_
    refine r_idiv (pc' := 11) h dX5_writesNumber_10 rfl (by decide) ?_
    refine r_callV1 (pc' := 14) (M := mX5_writesNumber) h hm dX5_writesNumber_11 rfl lX5_190 vX5_writesNumber rfl hQ.l0 hQ.o (Nat.le_of_ble_eq_true rfl) (rrb rfl) (kX5_writesNumber1 hQ (in_40 h9 (by omega) (by decide)) hv (fun S2 hQ2 hR2 => ?_))
    show AW X G _ _ _ _ _ _ _ _
    refine r_aload_n (pc' := 15) h dX5_writesNumber_14 rfl rfl ?_
    refine r_bipush (pc' := 17) (v := 48) h dX5_writesNumber_15 rfl (by decide) ?_
    refine r_iload_n (pc' := 18) h dX5_writesNumber_17 rfl rfl ?_
    refine r_bipush (pc' := 20) (v := 10) h dX5_writesNumber_18 rfl (by decide) ?_
    refine r_irem (pc' := 21) h dX5_writesNumber_20 rfl (by decide) ?_
    refine r_iadd (pc' := 22) h dX5_writesNumber_21 rfl ?_
    refine r_callV1 (pc' := 25) (M := mX5_writes) h hm dX5_writesNumber_22 rfl lX5_194 vX5_writes rfl hQ2.l0 hQ2.o (Nat.le_of_ble_eq_true rfl) (rrb rfl) (kX5_writes hQ2 (in_40 (qWr_9 h9 _) (by omega) (by decide)) (fun S3 hQ3 hR3 => ?_))
    show AW X G _ _ _ _ _ _ _ _
    refine r_return h hm dX5_writesNumber_25 (Nat.le_of_ble_eq_true rfl) (Nat.le_of_ble_eq_true rfl) ?_
    exact hk _ (by rw [qWn, if_neg c0]; exact hQ3) ((hR2).trans hR3)
theorem kX5_writesBehind {l : Launch} {G : GX} {N : Nat} {S : Nat → va_E} {K : RK} {Q : MM} (hQ : isM G N S Q) {c v : Int32} {p : Nat} (h9 : mI Q 9 = nI p) (hp : p + 3 ≤ 40) (hv : v / 10 ≤ 9) (hk : ∀ S1, isM G N S1 (qWb Q c v) → GR S S1 → K (.inl none) S1) : RetK l G N mX5_writesBehind (5, 105, 0, 0) [.ref (ad G 119), .int c, .int v] S K := by
  refine ret_enter (by decide +kernel) (Nat.le_of_ble_eq_true rfl) (fun X hX h hm => ?_)
  subst hX
  replace h : OK X G N cX5_writesBehind RX5 3 (5, 105, 0, 0) := h
  replace hm : OKm X G N K none (5, 105, 0, 0) := hm
  show AW X G 3 N 0 [(0, _), (1, _), (2, _)] [] S 0 0
  refine r_aload_n (pc' := 1) h dX5_writesBehind_0 rfl rfl ?_
  refine r_iload_n (pc' := 2) h dX5_writesBehind_1 rfl rfl ?_
  refine r_callV1 (pc' := 5) (M := mX5_writes) h hm dX5_writesBehind_2 rfl lX5_194 vX5_writes rfl hQ.l0 hQ.o (Nat.le_of_ble_eq_true rfl) (rrb rfl) (kX5_writes hQ (in_40 h9 (by omega) (by decide)) (fun S1 hQ1 hR1 => ?_))
  show AW X G _ _ _ _ _ _ _ _
  refine r_aload_n (pc' := 6) h dX5_writesBehind_5 rfl rfl ?_
  refine r_iload_n (pc' := 7) h dX5_writesBehind_6 rfl rfl ?_
  refine r_callV1 (pc' := 10) (M := mX5_writesNumber) h hm dX5_writesBehind_7 rfl lX5_190 vX5_writesNumber rfl hQ1.l0 hQ1.o (Nat.le_of_ble_eq_true rfl) (rrb rfl) (kX5_writesNumber hQ1 (qWr_9 h9 _) (by omega) hv (fun S2 hQ2 hR2 => ?_))
  show AW X G _ _ _ _ _ _ _ _
  refine r_return h hm dX5_writesBehind_10 (Nat.le_of_ble_eq_true rfl) (Nat.le_of_ble_eq_true rfl) ?_
  exact hk _ hQ2 ((hR1).trans hR2)
set_option maxHeartbeats 800000 in
theorem kX5_writeTurbine {l : Launch} {G : GX} {N : Nat} {S : Nat → va_E} {K : RK} {Q : MM} (hQ : isM G N S Q) (hw : wM (mM Q)) {t : Int32} (hten : hTen (mM Q) t) (hk : ∀ S1, isM G N S1 (qWtt Q t).1 → GR S S1 → K (.inl (some (.int (qWtt Q t).2))) S1) : RetK l G N mX5_writeTurbine (6, 136, 0, 0) [.ref (ad G 119), .int t] S K := by
  refine ret_enter (by decide +kernel) (Nat.le_of_ble_eq_true rfl) (fun X hX h hm => ?_)
  subst hX
  replace h : OK X G N cX5_writeTurbine RX5 2 (6, 136, 0, 0) := h
  replace hm : OKm X G N K (some .int) (6, 136, 0, 0) := hm
  show AW X G 2 N 0 [(0, _), (1, _)] [] S 0 0
  refine r_aload_n (pc' := 1) h dX5_writeTurbine_0 rfl rfl ?_
  refine r_aload_n (pc' := 2) h dX5_writeTurbine_1 rfl rfl ?_
  refine r_iload_n (pc' := 3) h dX5_writeTurbine_2 rfl rfl ?_
  refine r_callV1 (pc' := 6) (M := mX5_isTurbine) h hm dX5_writeTurbine_3 rfl lX5_103 vX5_isTurbine rfl hQ.l0 hQ.o (Nat.le_of_ble_eq_true rfl) (rrb rfl) (kX5_isTurbine hQ ?_)
  show AW X G _ _ _ _ _ _ _ _
  refine r_callV1 (pc' := 9) (M := mX5_isFine) h hm dX5_writeTurbine_6 rfl lX5_49 vX5_isFine rfl hQ.l0 hQ.o (Nat.le_of_ble_eq_true rfl) (rrb rfl) (kX5_isFine hQ (fun S1 hQ1 hR1 => ?_))
  show AW X G _ _ _ _ _ _ _ _
  refine r_if_neb (tgt := 14) (pc' := 12) h dX5_writeTurbine_9 (by decide) rfl (fun c0 => ?_) (fun c0 => ?_)
  · try simp only [mM_sI, mM_sM] at c0
    have hIT := c0
    have ht := qIT_in hw c0
    refine r_aload_n (pc' := 15) h dX5_writeTurbine_14 rfl rfl ?_
    refine r_iconst (pc' := 16) (v := 0) h dX5_writeTurbine_15 rfl (by decide) ?_
    refine pX5_187 (pc' := 19) h dX5_writeTurbine_16 rfl hQ1.l0 hQ1.o (Nat.le_of_ble_eq_true rfl) ?_
    refine wM9 hQ1 (fun S2 hQ2 hR2 => ?_)
    refine r_aload_n (pc' := 20) h dX5_writeTurbine_19 rfl rfl ?_
    refine r_iload_n (pc' := 21) h dX5_writeTurbine_20 rfl rfl ?_
    refine r_callV1 (pc' := 24) (M := mX5_writesNumber) h hm dX5_writeTurbine_21 rfl lX5_190 vX5_writesNumber rfl hQ2.l0 hQ2.o (Nat.le_of_ble_eq_true rfl) (rrb rfl) (kX5_writesNumber (p := 0) hQ2 rfl (by decide) (ten_lt ht) (fun S3 hQ3 hR3 => ?_))
    show AW X G _ _ _ _ _ _ _ _
    obtain ⟨q3, hq3, h93⟩ := qWn_9' (p := 0) hQ3 rfl
    refine r_aload_n (pc' := 25) h dX5_writeTurbine_24 rfl rfl ?_
    refine r_bipush (pc' := 27) (v := 64) h dX5_writeTurbine_25 rfl (by decide) ?_
    refine r_aload_n (pc' := 28) h dX5_writeTurbine_27 rfl rfl ?_
    refine r_iload_n (pc' := 29) h dX5_writeTurbine_28 rfl rfl ?_
    refine r_iconst (pc' := 30) (v := 0) h dX5_writeTurbine_29 rfl (by decide) ?_
    refine r_callV2 (pc' := 33) (M := mX5_t) h hm dX5_writeTurbine_30 rfl lX5_57 vX5_t rfl hQ3.l0 hQ3.o (Nat.le_of_ble_eq_true rfl) (rrb rfl) (kX5_t hQ3 (ix_T (w := 0) (ht) (by decide)) ?_)
    show AW X G _ _ _ _ _ _ _ _
    refine r_callV2 (pc' := 36) (M := mX5_writesBehind) h hm dX5_writeTurbine_33 rfl lX5_197 vX5_writesBehind rfl hQ3.l0 hQ3.o (Nat.le_of_ble_eq_true rfl) (rrb rfl) (kX5_writesBehind hQ3 h93 (by omega) (by simp only [mM_qWb, mM_qWn, mM_qWr, mM_sI, mM_sM]; exact hten.1) (fun S4 hQ4 hR4 => ?_))
    show AW X G _ _ _ _ _ _ _ _
    obtain ⟨q4, hq4, h94⟩ := qWb_9' hQ4 h93
    refine r_aload_n (pc' := 37) h dX5_writeTurbine_36 rfl rfl ?_
    refine r_bipush (pc' := 39) (v := 44) h dX5_writeTurbine_37 rfl (by decide) ?_
    refine r_aload_n (pc' := 40) h dX5_writeTurbine_39 rfl rfl ?_
    refine r_iload_n (pc' := 41) h dX5_writeTurbine_40 rfl rfl ?_
    refine r_iconst (pc' := 42) (v := 1) h dX5_writeTurbine_41 rfl (by decide) ?_
    refine r_callV2 (pc' := 45) (M := mX5_t) h hm dX5_writeTurbine_42 rfl lX5_57 vX5_t rfl hQ4.l0 hQ4.o (Nat.le_of_ble_eq_true rfl) (rrb rfl) (kX5_t hQ4 (ix_T (w := 1) (ht) (by decide)) ?_)
    show AW X G _ _ _ _ _ _ _ _
    refine r_callV2 (pc' := 48) (M := mX5_writesBehind) h hm dX5_writeTurbine_45 rfl lX5_197 vX5_writesBehind rfl hQ4.l0 hQ4.o (Nat.le_of_ble_eq_true rfl) (rrb rfl) (kX5_writesBehind hQ4 h94 (by omega) (by simp only [mM_qWb, mM_qWn, mM_qWr, mM_sI, mM_sM]; exact hten.2.1) (fun S5 hQ5 hR5 => ?_))
    show AW X G _ _ _ _ _ _ _ _
    obtain ⟨q5, hq5, h95⟩ := qWb_9' hQ5 h94
    refine r_aload_n (pc' := 49) h dX5_writeTurbine_48 rfl rfl ?_
    refine r_bipush (pc' := 51) (v := 112) h dX5_writeTurbine_49 rfl (by decide) ?_
    refine r_aload_n (pc' := 52) h dX5_writeTurbine_51 rfl rfl ?_
    refine r_iload_n (pc' := 53) h dX5_writeTurbine_52 rfl rfl ?_
    refine r_iconst (pc' := 54) (v := 2) h dX5_writeTurbine_53 rfl (by decide) ?_
    refine r_callV2 (pc' := 57) (M := mX5_t) h hm dX5_writeTurbine_54 rfl lX5_57 vX5_t rfl hQ5.l0 hQ5.o (Nat.le_of_ble_eq_true rfl) (rrb rfl) (kX5_t hQ5 (ix_T (w := 2) (ht) (by decide)) ?_)
    show AW X G _ _ _ _ _ _ _ _
    refine r_callV2 (pc' := 60) (M := mX5_writesBehind) h hm dX5_writeTurbine_57 rfl lX5_197 vX5_writesBehind rfl hQ5.l0 hQ5.o (Nat.le_of_ble_eq_true rfl) (rrb rfl) (kX5_writesBehind hQ5 h95 (by omega) (by simp only [mM_qWb, mM_qWn, mM_qWr, mM_sI, mM_sM]; exact hten.2.2.1) (fun S6 hQ6 hR6 => ?_))
    show AW X G _ _ _ _ _ _ _ _
    obtain ⟨q6, hq6, h96⟩ := qWb_9' hQ6 h95
    refine r_aload_n (pc' := 61) h dX5_writeTurbine_60 rfl rfl ?_
    refine r_bipush (pc' := 63) (v := 61) h dX5_writeTurbine_61 rfl (by decide) ?_
    refine r_aload_n (pc' := 64) h dX5_writeTurbine_63 rfl rfl ?_
    refine r_iload_n (pc' := 65) h dX5_writeTurbine_64 rfl rfl ?_
    refine r_callV1 (pc' := 68) (M := mX5_output) h hm dX5_writeTurbine_65 rfl lX5_77 vX5_output rfl hQ6.l0 hQ6.o (Nat.le_of_ble_eq_true rfl) (rrb rfl) (kX5_output hQ6 (by simp only [mM_qWb, mM_qWn, mM_qWr, mM_sI, mM_sM]; exact hw) ht ?_)
    show AW X G _ _ _ _ _ _ _ _
    refine r_callV2 (pc' := 71) (M := mX5_writesBehind) h hm dX5_writeTurbine_68 rfl lX5_197 vX5_writesBehind rfl hQ6.l0 hQ6.o (Nat.le_of_ble_eq_true rfl) (rrb rfl) (kX5_writesBehind hQ6 h96 (by omega) (by simp only [mM_qWb, mM_qWn, mM_qWr, mM_sI, mM_sM]; exact hten.2.2.2.1) (fun S7 hQ7 hR7 => ?_))
    show AW X G _ _ _ _ _ _ _ _
    obtain ⟨q7, hq7, h97⟩ := qWb_9' hQ7 h96
    refine r_aload_n (pc' := 72) h dX5_writeTurbine_71 rfl rfl ?_
    refine r_iload_n (pc' := 73) h dX5_writeTurbine_72 rfl rfl ?_
    refine r_iconst (pc' := 74) (v := 5) h dX5_writeTurbine_73 rfl (by decide) ?_
    refine r_callV2 (pc' := 77) (M := mX5_t) h hm dX5_writeTurbine_74 rfl lX5_57 vX5_t rfl hQ7.l0 hQ7.o (Nat.le_of_ble_eq_true rfl) (rrb rfl) (kX5_t hQ7 (ix_T (w := 5) (ht) (by decide)) ?_)
    show AW X G _ _ _ _ _ _ _ _
    refine r_if_le (tgt := 94) (pc' := 80) h dX5_writeTurbine_77 (by decide) rfl (fun c1 => ?_) (fun c1 => ?_)
    · try simp only [mM_sI, mM_sM] at c1
      refine r_aload_n (pc' := 95) h dX5_writeTurbine_94 rfl rfl ?_
      refine r_iload_n (pc' := 96) h dX5_writeTurbine_95 rfl rfl ?_
      refine r_iconst (pc' := 97) (v := 3) h dX5_writeTurbine_96 rfl (by decide) ?_
      refine r_callV2 (pc' := 100) (M := mX5_t) h hm dX5_writeTurbine_97 rfl lX5_57 vX5_t rfl hQ7.l0 hQ7.o (Nat.le_of_ble_eq_true rfl) (rrb rfl) (kX5_t hQ7 (ix_T (w := 3) (ht) (by decide)) ?_)
      show AW X G _ _ _ _ _ _ _ _
      refine r_iconst (pc' := 101) (v := 1) h dX5_writeTurbine_100 rfl (by decide) ?_
      refine r_icmp_ne (tgt := 110) (pc' := 104) h dX5_writeTurbine_101 (by decide) rfl (fun c2 => ?_) (fun c2 => ?_)
      · try simp only [mM_sI, mM_sM] at c2
        refine r_aload_n (pc' := 111) h dX5_writeTurbine_110 rfl rfl ?_
        refine r_iload_n (pc' := 112) h dX5_writeTurbine_111 rfl rfl ?_
        refine r_iconst (pc' := 113) (v := 3) h dX5_writeTurbine_112 rfl (by decide) ?_
        refine r_callV2 (pc' := 116) (M := mX5_t) h hm dX5_writeTurbine_113 rfl lX5_57 vX5_t rfl hQ7.l0 hQ7.o (Nat.le_of_ble_eq_true rfl) (rrb rfl) (kX5_t hQ7 (ix_T (w := 3) (ht) (by decide)) ?_)
        show AW X G _ _ _ _ _ _ _ _
        refine r_iconst (pc' := 117) (v := 2) h dX5_writeTurbine_116 rfl (by decide) ?_
        refine r_icmp_ne (tgt := 132) (pc' := 120) h dX5_writeTurbine_117 (by decide) rfl (fun c3 => ?_) (fun c3 => ?_)
        · try simp only [mM_sI, mM_sM] at c3
          refine r_aload_n (pc' := 133) h dX5_writeTurbine_132 rfl rfl ?_
          refine gX5_187 (pc' := 136) h dX5_writeTurbine_133 rfl hQ7.l0 hQ7.o rfl ?_
          refine r_ireturn h hm dX5_writeTurbine_136 (Nat.le_of_ble_eq_true rfl) (Nat.le_of_ble_eq_true rfl) ?_
          have e9 := hQ7
          simp only [mM_qWb, mM_qWn, mM_qWr, mM_sI, mM_sM] at c1
          simp only [mM_qWb, mM_qWn, mM_qWr, mM_sI, mM_sM] at c2
          simp only [mM_qWb, mM_qWn, mM_qWr, mM_sI, mM_sM] at c3
          simp only [mM_qWb, mM_qWn, mM_qWr, mM_sI, mM_sM] at e9
          refine kM hk e9 (((((((hR1).trans hR2).trans hR3).trans hR4).trans hR5).trans hR6).trans hR7) ?_
          first | (simp [qWtt, hIT, qWt9, qWt8, qWt7, qWt6, mM_qWb, mM_qWn, mM_qWr, mM_sI, mM_sM, c1, c2, c3]; done) | exact absurd (c2.symm.trans c3) (by decide)
        · try simp only [mM_sI, mM_sM] at c3
          refine r_aload_n (pc' := 121) h dX5_writeTurbine_120 rfl rfl ?_
          refine r_bipush (pc' := 123) (v := 115) h dX5_writeTurbine_121 rfl (by decide) ?_
          refine r_aload_n (pc' := 124) h dX5_writeTurbine_123 rfl rfl ?_
          refine r_iload_n (pc' := 125) h dX5_writeTurbine_124 rfl rfl ?_
          refine r_iconst (pc' := 126) (v := 4) h dX5_writeTurbine_125 rfl (by decide) ?_
          refine r_callV2 (pc' := 129) (M := mX5_t) h hm dX5_writeTurbine_126 rfl lX5_57 vX5_t rfl hQ7.l0 hQ7.o (Nat.le_of_ble_eq_true rfl) (rrb rfl) (kX5_t hQ7 (ix_T (w := 4) (ht) (by decide)) ?_)
          show AW X G _ _ _ _ _ _ _ _
          refine r_callV2 (pc' := 132) (M := mX5_writesBehind) h hm dX5_writeTurbine_129 rfl lX5_197 vX5_writesBehind rfl hQ7.l0 hQ7.o (Nat.le_of_ble_eq_true rfl) (rrb rfl) (kX5_writesBehind hQ7 h97 (by omega) (by simp only [mM_qWb, mM_qWn, mM_qWr, mM_sI, mM_sM]; exact hten.2.2.2.2.2) (fun S8 hQ8 hR8 => ?_))
          show AW X G _ _ _ _ _ _ _ _
          obtain ⟨q8, hq8, h98⟩ := qWb_9' hQ8 h97
          refine r_aload_n (pc' := 133) h dX5_writeTurbine_132 rfl rfl ?_
          refine gX5_187 (pc' := 136) h dX5_writeTurbine_133 rfl hQ8.l0 hQ8.o rfl ?_
          refine r_ireturn h hm dX5_writeTurbine_136 (Nat.le_of_ble_eq_true rfl) (Nat.le_of_ble_eq_true rfl) ?_
          have e9 := hQ8
          simp only [mM_qWb, mM_qWn, mM_qWr, mM_sI, mM_sM] at c1
          simp only [mM_qWb, mM_qWn, mM_qWr, mM_sI, mM_sM] at c2
          simp only [mM_qWb, mM_qWn, mM_qWr, mM_sI, mM_sM] at c3
          simp only [mM_qWb, mM_qWn, mM_qWr, mM_sI, mM_sM] at e9
          refine kM hk e9 ((((((((hR1).trans hR2).trans hR3).trans hR4).trans hR5).trans hR6).trans hR7).trans hR8) ?_
          first | (simp [qWtt, hIT, qWt9, qWt8, qWt7, qWt6, mM_qWb, mM_qWn, mM_qWr, mM_sI, mM_sM, c1, c2, c3]; done) | exact absurd (c2.symm.trans c3) (by decide)
      · try simp only [mM_sI, mM_sM] at c2
        refine r_aload_n (pc' := 105) h dX5_writeTurbine_104 rfl rfl ?_
        refine r_bipush (pc' := 107) (v := 120) h dX5_writeTurbine_105 rfl (by decide) ?_
        refine r_callV1 (pc' := 110) (M := mX5_writes) h hm dX5_writeTurbine_107 rfl lX5_194 vX5_writes rfl hQ7.l0 hQ7.o (Nat.le_of_ble_eq_true rfl) (rrb rfl) (kX5_writes hQ7 (in_40 h97 (by omega) (by decide)) (fun S9 hQ9 hR9 => ?_))
        show AW X G _ _ _ _ _ _ _ _
        have h99 := qWr_9 h97 120
        refine r_aload_n (pc' := 111) h dX5_writeTurbine_110 rfl rfl ?_
        refine r_iload_n (pc' := 112) h dX5_writeTurbine_111 rfl rfl ?_
        refine r_iconst (pc' := 113) (v := 3) h dX5_writeTurbine_112 rfl (by decide) ?_
        refine r_callV2 (pc' := 116) (M := mX5_t) h hm dX5_writeTurbine_113 rfl lX5_57 vX5_t rfl hQ9.l0 hQ9.o (Nat.le_of_ble_eq_true rfl) (rrb rfl) (kX5_t hQ9 (ix_T (w := 3) (ht) (by decide)) ?_)
        show AW X G _ _ _ _ _ _ _ _
        refine r_iconst (pc' := 117) (v := 2) h dX5_writeTurbine_116 rfl (by decide) ?_
        refine r_icmp_ne (tgt := 132) (pc' := 120) h dX5_writeTurbine_117 (by decide) rfl (fun c4 => ?_) (fun c4 => ?_)
        · try simp only [mM_sI, mM_sM] at c4
          refine r_aload_n (pc' := 133) h dX5_writeTurbine_132 rfl rfl ?_
          refine gX5_187 (pc' := 136) h dX5_writeTurbine_133 rfl hQ9.l0 hQ9.o rfl ?_
          refine r_ireturn h hm dX5_writeTurbine_136 (Nat.le_of_ble_eq_true rfl) (Nat.le_of_ble_eq_true rfl) ?_
          have e9 := hQ9
          simp only [mM_qWb, mM_qWn, mM_qWr, mM_sI, mM_sM] at c1
          simp only [mM_qWb, mM_qWn, mM_qWr, mM_sI, mM_sM] at c2
          simp only [mM_qWb, mM_qWn, mM_qWr, mM_sI, mM_sM] at c4
          simp only [mM_qWb, mM_qWn, mM_qWr, mM_sI, mM_sM] at e9
          refine kM hk e9 ((((((((hR1).trans hR2).trans hR3).trans hR4).trans hR5).trans hR6).trans hR7).trans hR9) ?_
          first | (simp [qWtt, hIT, qWt9, qWt8, qWt7, qWt6, mM_qWb, mM_qWn, mM_qWr, mM_sI, mM_sM, c1, c2, c4]; done) | exact absurd (c2.symm.trans c4) (by decide)
        · try simp only [mM_sI, mM_sM] at c4
          refine r_aload_n (pc' := 121) h dX5_writeTurbine_120 rfl rfl ?_
          refine r_bipush (pc' := 123) (v := 115) h dX5_writeTurbine_121 rfl (by decide) ?_
          refine r_aload_n (pc' := 124) h dX5_writeTurbine_123 rfl rfl ?_
          refine r_iload_n (pc' := 125) h dX5_writeTurbine_124 rfl rfl ?_
          refine r_iconst (pc' := 126) (v := 4) h dX5_writeTurbine_125 rfl (by decide) ?_
          refine r_callV2 (pc' := 129) (M := mX5_t) h hm dX5_writeTurbine_126 rfl lX5_57 vX5_t rfl hQ9.l0 hQ9.o (Nat.le_of_ble_eq_true rfl) (rrb rfl) (kX5_t hQ9 (ix_T (w := 4) (ht) (by decide)) ?_)
          show AW X G _ _ _ _ _ _ _ _
          refine r_callV2 (pc' := 132) (M := mX5_writesBehind) h hm dX5_writeTurbine_129 rfl lX5_197 vX5_writesBehind rfl hQ9.l0 hQ9.o (Nat.le_of_ble_eq_true rfl) (rrb rfl) (kX5_writesBehind hQ9 h99 (by omega) (by simp only [mM_qWb, mM_qWn, mM_qWr, mM_sI, mM_sM]; exact hten.2.2.2.2.2) (fun S10 hQ10 hR10 => ?_))
          show AW X G _ _ _ _ _ _ _ _
          obtain ⟨q10, hq10, h910⟩ := qWb_9' hQ10 h99
          refine r_aload_n (pc' := 133) h dX5_writeTurbine_132 rfl rfl ?_
          refine gX5_187 (pc' := 136) h dX5_writeTurbine_133 rfl hQ10.l0 hQ10.o rfl ?_
          refine r_ireturn h hm dX5_writeTurbine_136 (Nat.le_of_ble_eq_true rfl) (Nat.le_of_ble_eq_true rfl) ?_
          have e9 := hQ10
          simp only [mM_qWb, mM_qWn, mM_qWr, mM_sI, mM_sM] at c1
          simp only [mM_qWb, mM_qWn, mM_qWr, mM_sI, mM_sM] at c2
          simp only [mM_qWb, mM_qWn, mM_qWr, mM_sI, mM_sM] at c4
          simp only [mM_qWb, mM_qWn, mM_qWr, mM_sI, mM_sM] at e9
          refine kM hk e9 (((((((((hR1).trans hR2).trans hR3).trans hR4).trans hR5).trans hR6).trans hR7).trans hR9).trans hR10) ?_
          first | (simp [qWtt, hIT, qWt9, qWt8, qWt7, qWt6, mM_qWb, mM_qWn, mM_qWr, mM_sI, mM_sM, c1, c2, c4]; done) | exact absurd (c2.symm.trans c4) (by decide)
    · try simp only [mM_sI, mM_sM] at c1
      refine r_aload_n (pc' := 81) h dX5_writeTurbine_80 rfl rfl ?_
      refine r_bipush (pc' := 83) (v := 60) h dX5_writeTurbine_81 rfl (by decide) ?_
      refine r_aload_n (pc' := 84) h dX5_writeTurbine_83 rfl rfl ?_
      refine r_iload_n (pc' := 85) h dX5_writeTurbine_84 rfl rfl ?_
      refine r_iconst (pc' := 86) (v := 5) h dX5_writeTurbine_85 rfl (by decide) ?_
      refine r_callV2 (pc' := 89) (M := mX5_t) h hm dX5_writeTurbine_86 rfl lX5_57 vX5_t rfl hQ7.l0 hQ7.o (Nat.le_of_ble_eq_true rfl) (rrb rfl) (kX5_t hQ7 (ix_T (w := 5) (ht) (by decide)) ?_)
      show AW X G _ _ _ _ _ _ _ _
      refine r_iconst (pc' := 90) (v := 1) h dX5_writeTurbine_89 rfl (by decide) ?_
      refine r_isub (pc' := 91) h dX5_writeTurbine_90 rfl ?_
      refine r_callV2 (pc' := 94) (M := mX5_writesBehind) h hm dX5_writeTurbine_91 rfl lX5_197 vX5_writesBehind rfl hQ7.l0 hQ7.o (Nat.le_of_ble_eq_true rfl) (rrb rfl) (kX5_writesBehind hQ7 h97 (by omega) (by simp only [mM_qWb, mM_qWn, mM_qWr, mM_sI, mM_sM]; exact hten.2.2.2.2.1) (fun S11 hQ11 hR11 => ?_))
      show AW X G _ _ _ _ _ _ _ _
      obtain ⟨q11, hq11, h911⟩ := qWb_9' hQ11 h97
      refine r_aload_n (pc' := 95) h dX5_writeTurbine_94 rfl rfl ?_
      refine r_iload_n (pc' := 96) h dX5_writeTurbine_95 rfl rfl ?_
      refine r_iconst (pc' := 97) (v := 3) h dX5_writeTurbine_96 rfl (by decide) ?_
      refine r_callV2 (pc' := 100) (M := mX5_t) h hm dX5_writeTurbine_97 rfl lX5_57 vX5_t rfl hQ11.l0 hQ11.o (Nat.le_of_ble_eq_true rfl) (rrb rfl) (kX5_t hQ11 (ix_T (w := 3) (ht) (by decide)) ?_)
      show AW X G _ _ _ _ _ _ _ _
      refine r_iconst (pc' := 101) (v := 1) h dX5_writeTurbine_100 rfl (by decide) ?_
      refine r_icmp_ne (tgt := 110) (pc' := 104) h dX5_writeTurbine_101 (by decide) rfl (fun c5 => ?_) (fun c5 => ?_)
      · try simp only [mM_sI, mM_sM] at c5
        refine r_aload_n (pc' := 111) h dX5_writeTurbine_110 rfl rfl ?_
        refine r_iload_n (pc' := 112) h dX5_writeTurbine_111 rfl rfl ?_
        refine r_iconst (pc' := 113) (v := 3) h dX5_writeTurbine_112 rfl (by decide) ?_
        refine r_callV2 (pc' := 116) (M := mX5_t) h hm dX5_writeTurbine_113 rfl lX5_57 vX5_t rfl hQ11.l0 hQ11.o (Nat.le_of_ble_eq_true rfl) (rrb rfl) (kX5_t hQ11 (ix_T (w := 3) (ht) (by decide)) ?_)
        show AW X G _ _ _ _ _ _ _ _
        refine r_iconst (pc' := 117) (v := 2) h dX5_writeTurbine_116 rfl (by decide) ?_
        refine r_icmp_ne (tgt := 132) (pc' := 120) h dX5_writeTurbine_117 (by decide) rfl (fun c6 => ?_) (fun c6 => ?_)
        · try simp only [mM_sI, mM_sM] at c6
          refine r_aload_n (pc' := 133) h dX5_writeTurbine_132 rfl rfl ?_
          refine gX5_187 (pc' := 136) h dX5_writeTurbine_133 rfl hQ11.l0 hQ11.o rfl ?_
          refine r_ireturn h hm dX5_writeTurbine_136 (Nat.le_of_ble_eq_true rfl) (Nat.le_of_ble_eq_true rfl) ?_
          have e9 := hQ11
          simp only [mM_qWb, mM_qWn, mM_qWr, mM_sI, mM_sM] at c1
          simp only [mM_qWb, mM_qWn, mM_qWr, mM_sI, mM_sM] at c5
          simp only [mM_qWb, mM_qWn, mM_qWr, mM_sI, mM_sM] at c6
          simp only [mM_qWb, mM_qWn, mM_qWr, mM_sI, mM_sM] at e9
          refine kM hk e9 ((((((((hR1).trans hR2).trans hR3).trans hR4).trans hR5).trans hR6).trans hR7).trans hR11) ?_
          first | (simp [qWtt, hIT, qWt9, qWt8, qWt7, qWt6, mM_qWb, mM_qWn, mM_qWr, mM_sI, mM_sM, c1, c5, c6]; done) | exact absurd (c5.symm.trans c6) (by decide)
        · try simp only [mM_sI, mM_sM] at c6
          refine r_aload_n (pc' := 121) h dX5_writeTurbine_120 rfl rfl ?_
          refine r_bipush (pc' := 123) (v := 115) h dX5_writeTurbine_121 rfl (by decide) ?_
          refine r_aload_n (pc' := 124) h dX5_writeTurbine_123 rfl rfl ?_
          refine r_iload_n (pc' := 125) h dX5_writeTurbine_124 rfl rfl ?_
          refine r_iconst (pc' := 126) (v := 4) h dX5_writeTurbine_125 rfl (by decide) ?_
          refine r_callV2 (pc' := 129) (M := mX5_t) h hm dX5_writeTurbine_126 rfl lX5_57 vX5_t rfl hQ11.l0 hQ11.o (Nat.le_of_ble_eq_true rfl) (rrb rfl) (kX5_t hQ11 (ix_T (w := 4) (ht) (by decide)) ?_)
          show AW X G _ _ _ _ _ _ _ _
          refine r_callV2 (pc' := 132) (M := mX5_writesBehind) h hm dX5_writeTurbine_129 rfl lX5_197 vX5_writesBehind rfl hQ11.l0 hQ11.o (Nat.le_of_ble_eq_true rfl) (rrb rfl) (kX5_writesBehind hQ11 h911 (by omega) (by simp only [mM_qWb, mM_qWn, mM_qWr, mM_sI, mM_sM]; exact hten.2.2.2.2.2) (fun S12 hQ12 hR12 => ?_))
          show AW X G _ _ _ _ _ _ _ _
          obtain ⟨q12, hq12, h912⟩ := qWb_9' hQ12 h911
          refine r_aload_n (pc' := 133) h dX5_writeTurbine_132 rfl rfl ?_
          refine gX5_187 (pc' := 136) h dX5_writeTurbine_133 rfl hQ12.l0 hQ12.o rfl ?_
          refine r_ireturn h hm dX5_writeTurbine_136 (Nat.le_of_ble_eq_true rfl) (Nat.le_of_ble_eq_true rfl) ?_
          have e9 := hQ12
          simp only [mM_qWb, mM_qWn, mM_qWr, mM_sI, mM_sM] at c1
          simp only [mM_qWb, mM_qWn, mM_qWr, mM_sI, mM_sM] at c5
          simp only [mM_qWb, mM_qWn, mM_qWr, mM_sI, mM_sM] at c6
          simp only [mM_qWb, mM_qWn, mM_qWr, mM_sI, mM_sM] at e9
          refine kM hk e9 (((((((((hR1).trans hR2).trans hR3).trans hR4).trans hR5).trans hR6).trans hR7).trans hR11).trans hR12) ?_
          first | (simp [qWtt, hIT, qWt9, qWt8, qWt7, qWt6, mM_qWb, mM_qWn, mM_qWr, mM_sI, mM_sM, c1, c5, c6]; done) | exact absurd (c5.symm.trans c6) (by decide)
      · try simp only [mM_sI, mM_sM] at c5
        refine r_aload_n (pc' := 105) h dX5_writeTurbine_104 rfl rfl ?_
        refine r_bipush (pc' := 107) (v := 120) h dX5_writeTurbine_105 rfl (by decide) ?_
        refine r_callV1 (pc' := 110) (M := mX5_writes) h hm dX5_writeTurbine_107 rfl lX5_194 vX5_writes rfl hQ11.l0 hQ11.o (Nat.le_of_ble_eq_true rfl) (rrb rfl) (kX5_writes hQ11 (in_40 h911 (by omega) (by decide)) (fun S13 hQ13 hR13 => ?_))
        show AW X G _ _ _ _ _ _ _ _
        have h913 := qWr_9 h911 120
        refine r_aload_n (pc' := 111) h dX5_writeTurbine_110 rfl rfl ?_
        refine r_iload_n (pc' := 112) h dX5_writeTurbine_111 rfl rfl ?_
        refine r_iconst (pc' := 113) (v := 3) h dX5_writeTurbine_112 rfl (by decide) ?_
        refine r_callV2 (pc' := 116) (M := mX5_t) h hm dX5_writeTurbine_113 rfl lX5_57 vX5_t rfl hQ13.l0 hQ13.o (Nat.le_of_ble_eq_true rfl) (rrb rfl) (kX5_t hQ13 (ix_T (w := 3) (ht) (by decide)) ?_)
        show AW X G _ _ _ _ _ _ _ _
        refine r_iconst (pc' := 117) (v := 2) h dX5_writeTurbine_116 rfl (by decide) ?_
        refine r_icmp_ne (tgt := 132) (pc' := 120) h dX5_writeTurbine_117 (by decide) rfl (fun c7 => ?_) (fun c7 => ?_)
        · try simp only [mM_sI, mM_sM] at c7
          refine r_aload_n (pc' := 133) h dX5_writeTurbine_132 rfl rfl ?_
          refine gX5_187 (pc' := 136) h dX5_writeTurbine_133 rfl hQ13.l0 hQ13.o rfl ?_
          refine r_ireturn h hm dX5_writeTurbine_136 (Nat.le_of_ble_eq_true rfl) (Nat.le_of_ble_eq_true rfl) ?_
          have e9 := hQ13
          simp only [mM_qWb, mM_qWn, mM_qWr, mM_sI, mM_sM] at c1
          simp only [mM_qWb, mM_qWn, mM_qWr, mM_sI, mM_sM] at c5
          simp only [mM_qWb, mM_qWn, mM_qWr, mM_sI, mM_sM] at c7
          simp only [mM_qWb, mM_qWn, mM_qWr, mM_sI, mM_sM] at e9
          refine kM hk e9 (((((((((hR1).trans hR2).trans hR3).trans hR4).trans hR5).trans hR6).trans hR7).trans hR11).trans hR13) ?_
          first | (simp [qWtt, hIT, qWt9, qWt8, qWt7, qWt6, mM_qWb, mM_qWn, mM_qWr, mM_sI, mM_sM, c1, c5, c7]; done) | exact absurd (c5.symm.trans c7) (by decide)
        · try simp only [mM_sI, mM_sM] at c7
          refine r_aload_n (pc' := 121) h dX5_writeTurbine_120 rfl rfl ?_
          refine r_bipush (pc' := 123) (v := 115) h dX5_writeTurbine_121 rfl (by decide) ?_
          refine r_aload_n (pc' := 124) h dX5_writeTurbine_123 rfl rfl ?_
          refine r_iload_n (pc' := 125) h dX5_writeTurbine_124 rfl rfl ?_
          refine r_iconst (pc' := 126) (v := 4) h dX5_writeTurbine_125 rfl (by decide) ?_
          refine r_callV2 (pc' := 129) (M := mX5_t) h hm dX5_writeTurbine_126 rfl lX5_57 vX5_t rfl hQ13.l0 hQ13.o (Nat.le_of_ble_eq_true rfl) (rrb rfl) (kX5_t hQ13 (ix_T (w := 4) (ht) (by decide)) ?_)
          show AW X G _ _ _ _ _ _ _ _
          refine r_callV2 (pc' := 132) (M := mX5_writesBehind) h hm dX5_writeTurbine_129 rfl lX5_197 vX5_writesBehind rfl hQ13.l0 hQ13.o (Nat.le_of_ble_eq_true rfl) (rrb rfl) (kX5_writesBehind hQ13 h913 (by omega) (by simp only [mM_qWb, mM_qWn, mM_qWr, mM_sI, mM_sM]; exact hten.2.2.2.2.2) (fun S14 hQ14 hR14 => ?_))
          show AW X G _ _ _ _ _ _ _ _
          obtain ⟨q14, hq14, h914⟩ := qWb_9' hQ14 h913
          refine r_aload_n (pc' := 133) h dX5_writeTurbine_132 rfl rfl ?_
          refine gX5_187 (pc' := 136) h dX5_writeTurbine_133 rfl hQ14.l0 hQ14.o rfl ?_
          refine r_ireturn h hm dX5_writeTurbine_136 (Nat.le_of_ble_eq_true rfl) (Nat.le_of_ble_eq_true rfl) ?_
          have e9 := hQ14
          simp only [mM_qWb, mM_qWn, mM_qWr, mM_sI, mM_sM] at c1
          simp only [mM_qWb, mM_qWn, mM_qWr, mM_sI, mM_sM] at c5
          simp only [mM_qWb, mM_qWn, mM_qWr, mM_sI, mM_sM] at c7
          simp only [mM_qWb, mM_qWn, mM_qWr, mM_sI, mM_sM] at e9
          refine kM hk e9 ((((((((((hR1).trans hR2).trans hR3).trans hR4).trans hR5).trans hR6).trans hR7).trans hR11).trans hR13).trans hR14) ?_
          first | (simp [qWtt, hIT, qWt9, qWt8, qWt7, qWt6, mM_qWb, mM_qWn, mM_qWr, mM_sI, mM_sM, c1, c5, c7]; done) | exact absurd (c5.symm.trans c7) (by decide)
  · try simp only [mM_sI, mM_sM] at c0
    refine r_iconst (pc' := 13) (v := 0) h dX5_writeTurbine_12 rfl (by decide) ?_
    refine r_ireturn h hm dX5_writeTurbine_13 (Nat.le_of_ble_eq_true rfl) (Nat.le_of_ble_eq_true rfl) ?_
    exact kM hk hQ1 hR1 (by first | rfl | (simp [qWtt, qR, c0]; done) | (simp_all [qWtt, qR]; done))
theorem kX5_outputAt {l : Launch} {G : GX} {N : Nat} {S : Nat → va_E} {K : RK} {Q : MM} (hQ : isM G N S Q) {x : Int32} {p : Nat} (h9 : mI Q 9 = nI p) (hp : p ≤ 40) (hch : ∀ i, narrow .char (.int (mL Q i)) = .int (mL Q i)) (hk : ∀ S1, isM G N S1 (qOA Q x).1 → GR S S1 → K (.inl (some (.int (qOA Q x).2))) S1) : RetK l G N mX5_outputAt (1, 22, 0, 0) [.ref (ad G 119), .int x] S K := by
  refine ret_enter (by decide +kernel) (Nat.le_of_ble_eq_true rfl) (fun X hX h hm => ?_)
  subst hX
  replace h : OK X G N cX5_outputAt RX5 2 (1, 22, 0, 0) := h
  replace hm : OKm X G N K (some .char) (1, 22, 0, 0) := hm
  show AW X G 2 N 0 [(0, _), (1, _)] [] S 0 0
  refine r_aload_n (pc' := 1) h dX5_outputAt_0 rfl rfl ?_
  refine r_iload_n (pc' := 2) h dX5_outputAt_1 rfl rfl ?_
  refine r_iconst (pc' := 3) (v := 0) h dX5_outputAt_2 rfl (by decide) ?_
  refine r_aload_n (pc' := 4) h dX5_outputAt_3 rfl rfl ?_
  refine gX5_187 (pc' := 7) h dX5_outputAt_4 rfl hQ.l0 hQ.o rfl ?_
  refine r_iconst (pc' := 8) (v := 1) h dX5_outputAt_7 rfl (by decide) ?_
  refine r_isub (pc' := 9) h dX5_outputAt_8 rfl ?_
  refine r_callS3 (pc' := 12) (M := mX5_in) h hm dX5_outputAt_9 rfl lX5_53 vX5_in (Nat.le_of_ble_eq_true rfl) (rrb rfl) (kX5_in ?_)
  show AW X G _ _ _ _ _ _ _ _
  refine r_callV1 (pc' := 15) (M := mX5_isFine) h hm dX5_outputAt_12 rfl lX5_49 vX5_isFine rfl hQ.l0 hQ.o (Nat.le_of_ble_eq_true rfl) (rrb rfl) (kX5_isFine hQ (fun S1 hQ1 hR1 => ?_))
  show AW X G _ _ _ _ _ _ _ _
  refine r_if_eqb (tgt := 27) (pc' := 18) h dX5_outputAt_15 (by decide) rfl (fun c0 => ?_) (fun c0 => ?_)
  · try simp only [mM_sI, mM_sM] at c0
    refine r_iconst (pc' := 28) (v := 0) h dX5_outputAt_27 rfl (by decide) ?_
    refine r_zreturn h hm dX5_outputAt_28 (Nat.le_of_ble_eq_true rfl) (Nat.le_of_ble_eq_true rfl) (by first | exact hch _ | rfl) ?_
    refine kM hk hQ1 hR1 ?_
    first | rfl | contradiction | (simp [qOA, qIf, qR, mM_sI, mI_sI, mI_sM, mM_sM, b2i, c0]; done) | (simp [qOA, qIf, qR, mM_sI, mI_sI, mI_sM, mM_sM, b2i, c0]; rfl) | (simp_all [qOA, qIf, qR, mM_sI, mI_sI, mI_sM, mM_sM, b2i, c0]; done)
  · try simp only [mM_sI, mM_sM] at c0
    have hin0 : vp_in x p := wIn_lt (by have e9 := c0; rw [h9] at e9; exact e9) (by omega)
    refine r_aload_n (pc' := 19) h dX5_outputAt_18 rfl rfl ?_
    refine gX5_13 (pc' := 22) h dX5_outputAt_19 rfl hQ1.l0 hQ1.o rfl ?_
    refine r_iload_n (pc' := 23) h dX5_outputAt_22 rfl rfl ?_
    refine r_cald (pc' := 24) h dX5_outputAt_23 rfl hQ1.l2 hQ1.r2 (in_mono hin0 hp (by decide)) ?_
    refine r_goto (tgt := 28) h dX5_outputAt_24 (by decide) ?_
    refine r_zreturn h hm dX5_outputAt_28 (Nat.le_of_ble_eq_true rfl) (Nat.le_of_ble_eq_true rfl) (by first | exact hch _ | rfl) ?_
    refine kM hk hQ1 hR1 ?_
    first | rfl | contradiction | (simp [qOA, qIf, qR, mM_sI, mI_sI, mI_sM, mM_sM, b2i, c0]; done) | (simp [qOA, qIf, qR, mM_sI, mI_sI, mI_sM, mM_sM, b2i, c0]; rfl) | (simp_all [qOA, qIf, qR, mM_sI, mI_sI, mI_sM, mM_sM, b2i, c0]; done)
theorem kX5_appendInput {l : Launch} {G : GX} {N : Nat} {S : Nat → va_E} {K : RK} {Q : MM} (hQ : isM G N S Q) {c : Int32} {p : Nat} (h11 : mI Q 11 = nI p) (hp : p ≤ 60) (hk : ∀ S1, isM G N S1 (qAI Q c).1 → GR S S1 → K (.inl (some (.int (qAI Q c).2))) S1) : RetK l G N mX5_appendInput (1, 22, 0, 0) [.ref (ad G 119), .int c] S K := by
  refine ret_enter (by decide +kernel) (Nat.le_of_ble_eq_true rfl) (fun X hX h hm => ?_)
  subst hX
  replace h : OK X G N cX5_appendInput RX5 2 (1, 22, 0, 0) := h
  replace hm : OKm X G N K (some .int) (1, 22, 0, 0) := hm
  show AW X G 2 N 0 [(0, _), (1, _)] [] S 0 0
  refine r_aload_n (pc' := 1) h dX5_appendInput_0 rfl rfl ?_
  refine r_iload_n (pc' := 2) h dX5_appendInput_1 rfl rfl ?_
  refine r_bipush (pc' := 4) (v := 32) h dX5_appendInput_2 rfl (by decide) ?_
  refine r_bipush (pc' := 6) (v := 126) h dX5_appendInput_4 rfl (by decide) ?_
  refine r_callS3 (pc' := 9) (M := mX5_in) h hm dX5_appendInput_6 rfl lX5_53 vX5_in (Nat.le_of_ble_eq_true rfl) (rrb rfl) (kX5_in ?_)
  show AW X G _ _ _ _ _ _ _ _
  refine r_if_neb (tgt := 16) (pc' := 12) h dX5_appendInput_9 (by decide) rfl (fun c0 => ?_) (fun c0 => ?_)
  · try simp only [mM_sI, mM_sM] at c0
    refine r_aload_n (pc' := 17) h dX5_appendInput_16 rfl rfl ?_
    refine gX5_200 (pc' := 20) h dX5_appendInput_17 rfl hQ.l0 hQ.o rfl ?_
    refine r_bipush (pc' := 22) (v := 60) h dX5_appendInput_20 rfl (by decide) ?_
    refine r_icmp_ne (tgt := 29) (pc' := 25) h dX5_appendInput_22 (by decide) rfl (fun c1 => ?_) (fun c1 => ?_)
    · try simp only [mM_sI, mM_sM] at c1
      have h60 : ¬ mI Q 11 = 60 := c1
      refine r_iconst (pc' := 30) (v := 0) h dX5_appendInput_29 rfl (by decide) ?_
      refine pX5_27 (pc' := 33) h dX5_appendInput_30 rfl hQ.l0 hQ.o (Nat.le_of_ble_eq_true rfl) ?_
      refine wM0 hQ (fun S1 hQ1 hR1 => ?_)
      refine r_aload_n (pc' := 34) h dX5_appendInput_33 rfl rfl ?_
      refine gX5_27 (pc' := 37) h dX5_appendInput_34 rfl hQ1.l0 hQ1.o rfl ?_
      show AW X G _ _ _ _ (.int 0 :: _) _ _ _
      refine r_if_eq (tgt := 42) (pc' := 40) h dX5_appendInput_37 (by decide) rfl (fun _ => ?_) (fun c => absurd c (by decide))
      refine r_aload_n (pc' := 43) h dX5_appendInput_42 rfl rfl ?_
      refine gX5_17 (pc' := 46) h dX5_appendInput_43 rfl hQ1.l0 hQ1.o rfl ?_
      refine r_aload_n (pc' := 47) h dX5_appendInput_46 rfl rfl ?_
      refine gX5_200 (pc' := 50) h dX5_appendInput_47 rfl hQ1.l0 hQ1.o rfl ?_
      refine r_iload_n (pc' := 51) h dX5_appendInput_50 rfl rfl ?_
      refine r_cast (pc' := 52) h dX5_appendInput_51 rfl hQ1.l3 hQ1.r3 (in_40 h11 (by rcases Nat.lt_or_ge p 60 with q | q; exact q; exact absurd (by rw [h11, show p = 60 by omega]; rfl) h60) (by decide)) ?_
      refine wU2 hQ1 (fun S2 hQ2 hR2 => ?_)
      refine r_aload_n (pc' := 53) h dX5_appendInput_52 rfl rfl ?_
      refine r_dup (pc' := 54) h dX5_appendInput_53 rfl rfl ?_
      refine gX5_200 (pc' := 57) h dX5_appendInput_54 rfl hQ2.l0 hQ2.o rfl ?_
      refine r_iconst (pc' := 58) (v := 1) h dX5_appendInput_57 rfl (by decide) ?_
      refine r_iadd (pc' := 59) h dX5_appendInput_58 rfl ?_
      refine pX5_200 (pc' := 62) h dX5_appendInput_59 rfl hQ2.l0 hQ2.o (Nat.le_of_ble_eq_true rfl) ?_
      refine wM11 hQ2 (fun S3 hQ3 hR3 => ?_)
      refine r_aload_n (pc' := 63) h dX5_appendInput_62 rfl rfl ?_
      refine gX5_200 (pc' := 66) h dX5_appendInput_63 rfl hQ3.l0 hQ3.o rfl ?_
      refine r_ireturn h hm dX5_appendInput_66 (Nat.le_of_ble_eq_true rfl) (Nat.le_of_ble_eq_true rfl) ?_
      refine kM hk hQ3 (((hR1).trans hR2).trans hR3) ?_
      simp [qAI, qR, sMI_twice, mM_sI, mI_sI, mI_sM, mM_sM, c0, c1]
      exact ⟨rfl, rfl⟩
    · try simp only [mM_sI, mM_sM] at c1
      have h60 : mI Q 11 = 60 := c1
      refine r_iconst (pc' := 26) (v := 2) h dX5_appendInput_25 rfl (by decide) ?_
      refine r_goto (tgt := 30) h dX5_appendInput_26 (by decide) ?_
      refine pX5_27 (pc' := 33) h dX5_appendInput_30 rfl hQ.l0 hQ.o (Nat.le_of_ble_eq_true rfl) ?_
      refine wM0 hQ (fun S4 hQ4 hR4 => ?_)
      refine r_aload_n (pc' := 34) h dX5_appendInput_33 rfl rfl ?_
      refine gX5_27 (pc' := 37) h dX5_appendInput_34 rfl hQ4.l0 hQ4.o rfl ?_
      show AW X G _ _ _ _ (.int 2 :: _) _ _ _
      refine r_if_eq (tgt := 42) (pc' := 40) h dX5_appendInput_37 (by decide) rfl (fun c => absurd c (by decide)) (fun _ => ?_)
      refine r_iconst (pc' := 41) (v := 0) h dX5_appendInput_40 rfl (by decide) ?_
      refine r_ireturn h hm dX5_appendInput_41 (Nat.le_of_ble_eq_true rfl) (Nat.le_of_ble_eq_true rfl) ?_
      refine kM hk hQ4 hR4 ?_
      simp [qAI, qR, sMI_twice, mM_sI, mI_sI, mI_sM, mM_sM, c0, c1]
  · try simp only [mM_sI, mM_sM] at c0
    refine r_iconst (pc' := 13) (v := 1) h dX5_appendInput_12 rfl (by decide) ?_
    refine r_goto (tgt := 30) h dX5_appendInput_13 (by decide) ?_
    refine pX5_27 (pc' := 33) h dX5_appendInput_30 rfl hQ.l0 hQ.o (Nat.le_of_ble_eq_true rfl) ?_
    refine wM0 hQ (fun S5 hQ5 hR5 => ?_)
    refine r_aload_n (pc' := 34) h dX5_appendInput_33 rfl rfl ?_
    refine gX5_27 (pc' := 37) h dX5_appendInput_34 rfl hQ5.l0 hQ5.o rfl ?_
    show AW X G _ _ _ _ (.int 1 :: _) _ _ _
    refine r_if_eq (tgt := 42) (pc' := 40) h dX5_appendInput_37 (by decide) rfl (fun c => absurd c (by decide)) (fun _ => ?_)
    refine r_iconst (pc' := 41) (v := 0) h dX5_appendInput_40 rfl (by decide) ?_
    refine r_ireturn h hm dX5_appendInput_41 (Nat.le_of_ble_eq_true rfl) (Nat.le_of_ble_eq_true rfl) ?_
    refine kM hk hQ5 hR5 ?_
    simp [qAI, qR, sMI_twice, mM_sI, mI_sI, mI_sM, mM_sM, c0]
theorem kX5_sign {l : Launch} {G : GX} {N : Nat} {S : Nat → va_E} {K : RK} {Q : MM} (hQ : isM G N S Q) {p q : Nat} (hp : hP Q p q) (hk : K (.inl (some (.int (qSg Q)))) S) : RetK l G N mX5_sign (0, 0, 0, 0) [.ref (ad G 119)] S K := by
  refine ret_enter (by decide +kernel) (Nat.le_of_ble_eq_true rfl) (fun X hX h hm => ?_)
  subst hX
  replace h : OK X G N cX5_sign RX5 1 (0, 0, 0, 0) := h
  replace hm : OKm X G N K (some .int) (0, 0, 0, 0) := hm
  show AW X G 1 N 0 [(0, _)] [] S 0 0
  refine r_aload_n (pc' := 1) h dX5_sign_0 rfl rfl ?_
  refine gX5_203 (pc' := 4) h dX5_sign_1 rfl hQ.l0 hQ.o rfl ?_
  refine r_aload_n (pc' := 5) h dX5_sign_4 rfl rfl ?_
  refine gX5_200 (pc' := 8) h dX5_sign_5 rfl hQ.l0 hQ.o rfl ?_
  refine r_icmp_ge (tgt := 23) (pc' := 11) h dX5_sign_8 (by decide) rfl (fun c0 => ?_) (fun c0 => ?_)
  · try simp only [mM_sI, mM_sM] at c0
    refine r_iconst (pc' := 24) (v := -1) h dX5_sign_23 rfl (by decide) ?_
    refine r_ireturn h hm dX5_sign_24 (Nat.le_of_ble_eq_true rfl) (Nat.le_of_ble_eq_true rfl) ?_
    exact kI hk (by simp [qSg, c0])
  · try simp only [mM_sI, mM_sM] at c0
    have hl : p < q := by rcases Nat.lt_or_ge p q with a | a; exact a; exact absurd (by rw [hp.1, hp.2.1]; exact nI_le a (by have := hp.2.2; omega)) c0
    refine r_aload_n (pc' := 12) h dX5_sign_11 rfl rfl ?_
    refine gX5_17 (pc' := 15) h dX5_sign_12 rfl hQ.l0 hQ.o rfl ?_
    refine r_aload_n (pc' := 16) h dX5_sign_15 rfl rfl ?_
    refine gX5_203 (pc' := 19) h dX5_sign_16 rfl hQ.l0 hQ.o rfl ?_
    refine r_cald (pc' := 20) h dX5_sign_19 rfl hQ.l3 hQ.r3 (in_mono (in_40 hp.1 hl (by have := hp.2.2.2; omega)) hp.2.2.2 (by decide)) ?_
    refine r_goto (tgt := 24) h dX5_sign_20 (by decide) ?_
    refine r_ireturn h hm dX5_sign_24 (Nat.le_of_ble_eq_true rfl) (Nat.le_of_ble_eq_true rfl) ?_
    exact kI hk (by simp [qSg, c0])
theorem kX5_needs {l : Launch} {G : GX} {N : Nat} {S : Nat → va_E} {K : RK} {Q : MM} (hQ : isM G N S Q) {p q : Nat} (hp : hP Q p q) {c : Int32} (hk : ∀ S1, isM G N S1 (qNe Q c) → GR S S1 → K (.inl none) S1) : RetK l G N mX5_needs (1, 20, 0, 0) [.ref (ad G 119), .int c] S K := by
  refine ret_enter (by decide +kernel) (Nat.le_of_ble_eq_true rfl) (fun X hX h hm => ?_)
  subst hX
  replace h : OK X G N cX5_needs RX5 2 (1, 20, 0, 0) := h
  replace hm : OKm X G N K none (1, 20, 0, 0) := hm
  show AW X G 2 N 0 [(0, _), (1, _)] [] S 0 0
  refine r_aload_n (pc' := 1) h dX5_needs_0 rfl rfl ?_
  refine gX5_206 (pc' := 4) h dX5_needs_1 rfl hQ.l0 hQ.o rfl ?_
  refine r_if_lt (tgt := 8) (pc' := 7) h dX5_needs_4 (by decide) rfl (fun c0 => ?_) (fun c0 => ?_)
  · try simp only [mM_sI, mM_sM] at c0
    have hn0 : ¬ 0 ≤ mI Q 13 := Int32.not_le.mpr c0
    refine r_aload_n (pc' := 9) h dX5_needs_8 rfl rfl ?_
    refine r_callV0 (pc' := 12) (M := mX5_sign) h hm dX5_needs_9 rfl lX5_209 vX5_sign rfl hQ.l0 hQ.o (Nat.le_of_ble_eq_true rfl) (rrb rfl) (kX5_sign hQ hp ?_)
    show AW X G _ _ _ _ _ _ _ _
    refine r_iload_n (pc' := 13) h dX5_needs_12 rfl rfl ?_
    refine r_icmp_eq (tgt := 25) (pc' := 16) h dX5_needs_13 (by decide) rfl (fun c1 => ?_) (fun c1 => ?_)
    · try simp only [mM_sI, mM_sM] at c1
      refine r_aload_n (pc' := 26) h dX5_needs_25 rfl rfl ?_
      refine r_dup (pc' := 27) h dX5_needs_26 rfl rfl ?_
      refine gX5_203 (pc' := 30) h dX5_needs_27 rfl hQ.l0 hQ.o rfl ?_
      refine r_iconst (pc' := 31) (v := 1) h dX5_needs_30 rfl (by decide) ?_
      refine r_iadd (pc' := 32) h dX5_needs_31 rfl ?_
      refine pX5_203 (pc' := 35) h dX5_needs_32 rfl hQ.l0 hQ.o (Nat.le_of_ble_eq_true rfl) ?_
      refine wM12 hQ (fun S1 hQ1 hR1 => ?_)
      refine r_return h hm dX5_needs_35 (Nat.le_of_ble_eq_true rfl) (Nat.le_of_ble_eq_true rfl) ?_
      exact hk _ (by rw [qNe, if_neg hn0, if_pos c1]; exact hQ1) hR1
    · try simp only [mM_sI, mM_sM] at c1
      refine r_aload_n (pc' := 17) h dX5_needs_16 rfl rfl ?_
      refine r_aload_n (pc' := 18) h dX5_needs_17 rfl rfl ?_
      refine gX5_203 (pc' := 21) h dX5_needs_18 rfl hQ.l0 hQ.o rfl ?_
      refine pX5_206 (pc' := 24) h dX5_needs_21 rfl hQ.l0 hQ.o (Nat.le_of_ble_eq_true rfl) ?_
      refine wM13 hQ (fun S2 hQ2 hR2 => ?_)
      refine r_return h hm dX5_needs_24 (Nat.le_of_ble_eq_true rfl) (Nat.le_of_ble_eq_true rfl) ?_
      exact hk _ (by rw [qNe, if_neg hn0, if_neg c1]; exact hQ2) hR2
  · try simp only [mM_sI, mM_sM] at c0
    have hn0 : 0 ≤ mI Q 13 := Int32.not_lt.mp c0
    refine r_return h hm dX5_needs_7 (Nat.le_of_ble_eq_true rfl) (Nat.le_of_ble_eq_true rfl) ?_
    exact hk _ (by rw [qNe, if_pos hn0]; exact hQ) GR.rfl'
theorem kX5_number {l : Launch} {G : GX} {N : Nat} {S : Nat → va_E} {K : RK} {Q : MM} (hQ : isM G N S Q) {p q : Nat} (hp : hP Q p q) {d : Nat} (hd : d ≤ 3) (hk : ∀ S1, isM G N S1 (qNu d Q).1 → GR S S1 → K (.inl (some (.int (qNu d Q).2))) S1) : RetK l G N mX5_number (1, 22, 0, 0) [.ref (ad G 119), .int (nI d)] S K := by
  refine ret_enter (by decide +kernel) (Nat.le_of_ble_eq_true rfl) (fun X hX h hm => ?_)
  subst hX
  replace h : OK X G N cX5_number RX5 4 (1, 22, 0, 0) := h
  replace hm : OKm X G N K (some .int) (1, 22, 0, 0) := hm
  show AW X G 4 N 0 [(0, _), (1, _)] [] S 0 0
  refine r_aload_n (pc' := 1) h dX5_number_0 rfl rfl ?_
  refine gX5_206 (pc' := 4) h dX5_number_1 rfl hQ.l0 hQ.o rfl ?_
  refine r_if_lt (tgt := 9) (pc' := 7) h dX5_number_4 (by decide) rfl (fun c0 => ?_) (fun c0 => ?_)
  · try simp only [mM_sI, mM_sM] at c0
    have hn0 : ¬ 0 ≤ mI Q 13 := Int32.not_le.mpr c0
    refine r_aload_n (pc' := 10) h dX5_number_9 rfl rfl ?_
    refine r_callV0 (pc' := 13) (M := mX5_sign) h hm dX5_number_10 rfl lX5_209 vX5_sign rfl hQ.l0 hQ.o (Nat.le_of_ble_eq_true rfl) (rrb rfl) (kX5_sign hQ hp ?_)
    show AW X G _ _ _ _ _ _ _ _
    refine r_bipush (pc' := 15) (v := 48) h dX5_number_13 rfl (by decide) ?_
    refine r_bipush (pc' := 17) (v := 57) h dX5_number_15 rfl (by decide) ?_
    refine r_callS3 (pc' := 20) (M := mX5_in) h hm dX5_number_17 rfl lX5_53 vX5_in (Nat.le_of_ble_eq_true rfl) (rrb rfl) (kX5_in ?_)
    show AW X G _ _ _ _ _ _ _ _
    refine r_if_neb (tgt := 33) (pc' := 23) h dX5_number_20 (by decide) rfl (fun c1 => ?_) (fun c1 => ?_)
    · try simp only [mM_sI, mM_sM] at c1
      have hn1 := c1
      refine r_iconst (pc' := 34) (v := 0) h dX5_number_33 rfl (by decide) ?_
      refine r_istoren (j := 2) (pc' := 35) h rfl dX5_number_34 rfl (by decide) rfl ?_
      refine r_iconst (pc' := 36) (v := 0) h dX5_number_35 rfl (by decide) ?_
      refine r_istoren (j := 3) (pc' := 37) h rfl dX5_number_36 rfl (by decide) rfl ?_
      have loop : ∀ (n j : Nat), j ≤ d → d - j < n → ∀ (Sj : Nat → va_E) (Q1 : MM) (v : Int32) (p' : Nat), isM G N Sj Q1 → GR S Sj → hP Q1 p' q → qNl (d - j) Q1 v = qNl d Q 0 → AW X G 4 N 37 [(0, .ref (ad G 119)), (1, .int (nI d)), (2, .int v), (3, .int (nI j))] [] Sj 0 0 := by
        intro n
        induction n with
        | zero => intro j h1 h2; exact absurd h2 (by omega)
        | succ n ih =>
          intro j h1 h2 Sj Q1 v p' hj1 hr1 hp1 hv
          refine r_iload_n (pc' := 38) h dX5_number_37 rfl rfl ?_
          refine r_iload_n (pc' := 39) h dX5_number_38 rfl rfl ?_
          refine r_icmp_ge (tgt := 85) (pc' := 42) h dX5_number_39 (by decide) rfl (fun c2 => ?_) (fun c2 => ?_)
          · try simp only [mM_sI, mM_sM] at c2
            have ej := lp_ge (c := d) rfl (by omega) h1 c2
            subst ej
            skip
            refine r_iload_n (pc' := 86) h dX5_number_85 rfl rfl ?_
            refine r_ireturn h hm dX5_number_86 (Nat.le_of_ble_eq_true rfl) (Nat.le_of_ble_eq_true rfl) ?_
            refine kM hk hj1 hr1 ?_
            rw [qNu, if_neg hn0, if_pos hn1, ← hv, Nat.sub_self]; rfl
          · try simp only [mM_sI, mM_sM] at c2
            have hj := lp_lt (c := d) rfl (by omega) h1 c2
            refine r_aload_n (pc' := 43) h dX5_number_42 rfl rfl ?_
            refine r_callV0 (pc' := 46) (M := mX5_sign) h hm dX5_number_43 rfl lX5_209 vX5_sign rfl hj1.l0 hj1.o (Nat.le_of_ble_eq_true rfl) (rrb rfl) (kX5_sign hj1 hp1 ?_)
            show AW X G _ _ _ _ _ _ _ _
            refine r_bipush (pc' := 48) (v := 48) h dX5_number_46 rfl (by decide) ?_
            refine r_bipush (pc' := 50) (v := 57) h dX5_number_48 rfl (by decide) ?_
            refine r_callS3 (pc' := 53) (M := mX5_in) h hm dX5_number_50 rfl lX5_53 vX5_in (Nat.le_of_ble_eq_true rfl) (rrb rfl) (kX5_in ?_)
            show AW X G _ _ _ _ _ _ _ _
            refine r_if_eqb (tgt := 85) (pc' := 56) h dX5_number_53 (by decide) rfl (fun c3 => ?_) (fun c3 => ?_)
            · try simp only [mM_sI, mM_sM] at c3
              have hdg : ¬ wIn (qSg Q1) 48 57 = true := by rw [c3]; decide
              refine r_iload_n (pc' := 86) h dX5_number_85 rfl rfl ?_
              refine r_ireturn h hm dX5_number_86 (Nat.le_of_ble_eq_true rfl) (Nat.le_of_ble_eq_true rfl) ?_
              refine kM hk hj1 hr1 ?_
              rw [qNu, if_neg hn0, if_pos hn1, ← hv, show d - j = (d - j - 1) + 1 by omega, qNl, if_neg hdg]
            · try simp only [mM_sI, mM_sM] at c3
              have hdg := c3
              have hl := qSg_lt hp1 (wIn_ne hdg)
              refine r_bipush (pc' := 58) (v := 10) h dX5_number_56 rfl (by decide) ?_
              refine r_iload_n (pc' := 59) h dX5_number_58 rfl rfl ?_
              refine r_imul (pc' := 60) h dX5_number_59 rfl ?_
              refine r_aload_n (pc' := 61) h dX5_number_60 rfl rfl ?_
              refine r_callV0 (pc' := 64) (M := mX5_sign) h hm dX5_number_61 rfl lX5_209 vX5_sign rfl hj1.l0 hj1.o (Nat.le_of_ble_eq_true rfl) (rrb rfl) (kX5_sign hj1 hp1 ?_)
              show AW X G _ _ _ _ _ _ _ _
              refine r_iadd (pc' := 65) h dX5_number_64 rfl ?_
              refine r_bipush (pc' := 67) (v := 48) h dX5_number_65 rfl (by decide) ?_
              refine r_isub (pc' := 68) h dX5_number_67 rfl ?_
              refine r_istoren (j := 2) (pc' := 69) h rfl dX5_number_68 rfl (by decide) rfl ?_
              refine r_aload_n (pc' := 70) h dX5_number_69 rfl rfl ?_
              refine r_dup (pc' := 71) h dX5_number_70 rfl rfl ?_
              refine gX5_203 (pc' := 74) h dX5_number_71 rfl hj1.l0 hj1.o rfl ?_
              refine r_iconst (pc' := 75) (v := 1) h dX5_number_74 rfl (by decide) ?_
              refine r_iadd (pc' := 76) h dX5_number_75 rfl ?_
              refine pX5_203 (pc' := 79) h dX5_number_76 rfl hj1.l0 hj1.o (Nat.le_of_ble_eq_true rfl) ?_
              refine wM12 hj1 (fun S1 hQ1 hR1 => ?_)
              refine r_iinc (pc' := 82) (v := 1) h dX5_number_79 rfl (by decide) (by decide) rfl rfl ?_
              refine r_goto (tgt := 37) h dX5_number_82 (by decide) ?_
              refine aw_cast (by simp [nI_1]) (ih (j + 1) (by omega) (by omega) _ _ (10 * v + qSg Q1 - 48) (p' + 1) hQ1 ((hr1).trans hR1) (hP_Ad hp1 hl) ?_)
              rw [← hv, show d - j = (d - (j + 1)) + 1 by omega, qNl, if_pos hdg]; rfl
      exact loop (d + 1) 0 (Nat.zero_le _) (by omega) _ _ _ p hQ GR.rfl' hp rfl
    · try simp only [mM_sI, mM_sM] at c1
      have hn1 : ¬ wIn (qSg Q) 48 57 = true := by rw [c1]; decide
      refine r_aload_n (pc' := 24) h dX5_number_23 rfl rfl ?_
      refine r_aload_n (pc' := 25) h dX5_number_24 rfl rfl ?_
      refine gX5_203 (pc' := 28) h dX5_number_25 rfl hQ.l0 hQ.o rfl ?_
      refine pX5_206 (pc' := 31) h dX5_number_28 rfl hQ.l0 hQ.o (Nat.le_of_ble_eq_true rfl) ?_
      refine wM13 hQ (fun S2 hQ2 hR2 => ?_)
      refine r_iconst (pc' := 32) (v := 0) h dX5_number_31 rfl (by decide) ?_
      refine r_ireturn h hm dX5_number_32 (Nat.le_of_ble_eq_true rfl) (Nat.le_of_ble_eq_true rfl) ?_
      refine kM hk hQ2 hR2 ?_
      rw [qNu, if_neg hn0, if_neg hn1]; rfl
  · try simp only [mM_sI, mM_sM] at c0
    have hn0 : 0 ≤ mI Q 13 := Int32.not_lt.mp c0
    refine r_iconst (pc' := 8) (v := 0) h dX5_number_7 rfl (by decide) ?_
    refine r_ireturn h hm dX5_number_8 (Nat.le_of_ble_eq_true rfl) (Nat.le_of_ble_eq_true rfl) ?_
    refine kM hk hQ GR.rfl' ?_
    rw [qNu, if_pos hn0]
theorem kX5_behind {l : Launch} {G : GX} {N : Nat} {S : Nat → va_E} {K : RK} {Q : MM} (hQ : isM G N S Q) {p q : Nat} (hp : hP Q p q) {c : Int32} (hc : c ≠ -1) (hk : ∀ S1, isM G N S1 (qBe c Q).1 → GR S S1 → K (.inl (some (.int (qBe c Q).2))) S1) : RetK l G N mX5_behind (2, 45, 0, 0) [.ref (ad G 119), .int c] S K := by
  refine ret_enter (by decide +kernel) (Nat.le_of_ble_eq_true rfl) (fun X hX h hm => ?_)
  subst hX
  replace h : OK X G N cX5_behind RX5 2 (2, 45, 0, 0) := h
  replace hm : OKm X G N K (some .int) (2, 45, 0, 0) := hm
  show AW X G 2 N 0 [(0, _), (1, _)] [] S 0 0
  refine r_aload_n (pc' := 1) h dX5_behind_0 rfl rfl ?_
  refine r_iload_n (pc' := 2) h dX5_behind_1 rfl rfl ?_
  refine r_callV1 (pc' := 5) (M := mX5_needs) h hm dX5_behind_2 rfl lX5_212 vX5_needs rfl hQ.l0 hQ.o (Nat.le_of_ble_eq_true rfl) (rrb rfl) (kX5_needs hQ hp (fun S1 hQ1 hR1 => ?_))
  show AW X G _ _ _ _ _ _ _ _
  obtain ⟨p1, hpp, hp1⟩ := hP_Ne hp hc
  refine r_aload_n (pc' := 6) h dX5_behind_5 rfl rfl ?_
  refine r_iconst (pc' := 7) (v := 3) h dX5_behind_6 rfl (by decide) ?_
  refine r_callV1 (pc' := 10) (M := mX5_number) h hm dX5_behind_7 rfl lX5_215 vX5_number rfl hQ1.l0 hQ1.o (Nat.le_of_ble_eq_true rfl) (rrb rfl) (kX5_number (d := 3) hQ1 hp1 (by decide) (fun S2 hQ2 hR2 => ?_))
  show AW X G _ _ _ _ _ _ _ _
  refine r_ireturn h hm dX5_behind_10 (Nat.le_of_ble_eq_true rfl) (Nat.le_of_ble_eq_true rfl) ?_
  exact hk _ hQ2 ((hR1).trans hR2)
theorem kX5_way {l : Launch} {G : GX} {N : Nat} {S : Nat → va_E} {K : RK} {Q : MM} (hQ : isM G N S Q) {p q : Nat} (hp : hP Q p q) (hk : ∀ S1, isM G N S1 (qWa Q).1 → GR S S1 → K (.inl (some (.int (qWa Q).2))) S1) : RetK l G N mX5_way (1, 20, 0, 0) [.ref (ad G 119)] S K := by
  refine ret_enter (by decide +kernel) (Nat.le_of_ble_eq_true rfl) (fun X hX h hm => ?_)
  subst hX
  replace h : OK X G N cX5_way RX5 2 (1, 20, 0, 0) := h
  replace hm : OKm X G N K (some .int) (1, 20, 0, 0) := hm
  show AW X G 2 N 0 [(0, _)] [] S 0 0
  refine r_aload_n (pc' := 1) h dX5_way_0 rfl rfl ?_
  refine r_callV0 (pc' := 4) (M := mX5_sign) h hm dX5_way_1 rfl lX5_209 vX5_sign rfl hQ.l0 hQ.o (Nat.le_of_ble_eq_true rfl) (rrb rfl) (kX5_sign hQ hp ?_)
  show AW X G _ _ _ _ _ _ _ _
  refine r_callS1 (pc' := 7) (M := mX5_wayOf) h hm dX5_way_4 rfl lX5_132 vX5_wayOf (Nat.le_of_ble_eq_true rfl) (rrb rfl) (kX5_wayOf ?_)
  show AW X G _ _ _ _ _ _ _ _
  refine r_istoren (j := 1) (pc' := 8) h rfl dX5_way_7 rfl (by decide) rfl ?_
  refine r_iload_n (pc' := 9) h dX5_way_8 rfl rfl ?_
  refine r_if_ge (tgt := 22) (pc' := 12) h dX5_way_9 (by decide) rfl (fun c0 => ?_) (fun c0 => ?_)
  · try simp only [mM_sI, mM_sM] at c0
    have hw1 : ¬ qWay (qSg Q) < 0 := Int32.not_lt.mpr c0
    refine r_aload_n (pc' := 23) h dX5_way_22 rfl rfl ?_
    refine r_dup (pc' := 24) h dX5_way_23 rfl rfl ?_
    refine gX5_203 (pc' := 27) h dX5_way_24 rfl hQ.l0 hQ.o rfl ?_
    refine r_iconst (pc' := 28) (v := 1) h dX5_way_27 rfl (by decide) ?_
    refine r_iadd (pc' := 29) h dX5_way_28 rfl ?_
    refine pX5_203 (pc' := 32) h dX5_way_29 rfl hQ.l0 hQ.o (Nat.le_of_ble_eq_true rfl) ?_
    refine wM12 hQ (fun S1 hQ1 hR1 => ?_)
    refine r_iload_n (pc' := 33) h dX5_way_32 rfl rfl ?_
    refine r_ireturn h hm dX5_way_33 (Nat.le_of_ble_eq_true rfl) (Nat.le_of_ble_eq_true rfl) ?_
    refine kM hk hQ1 hR1 ?_
    first | (rw [qWa, if_pos hw1]; done) | (rw [qWa, if_pos hw1]; rfl) | (rw [qWa, if_neg hw1]; done) | (rw [qWa, if_neg hw1]; rfl)
  · try simp only [mM_sI, mM_sM] at c0
    have hw1 : qWay (qSg Q) < 0 := Int32.not_le.mp c0
    refine r_aload_n (pc' := 13) h dX5_way_12 rfl rfl ?_
    refine r_aload_n (pc' := 14) h dX5_way_13 rfl rfl ?_
    refine gX5_203 (pc' := 17) h dX5_way_14 rfl hQ.l0 hQ.o rfl ?_
    refine pX5_206 (pc' := 20) h dX5_way_17 rfl hQ.l0 hQ.o (Nat.le_of_ble_eq_true rfl) ?_
    refine wM13 hQ (fun S2 hQ2 hR2 => ?_)
    refine r_iconst (pc' := 21) (v := 0) h dX5_way_20 rfl (by decide) ?_
    refine r_ireturn h hm dX5_way_21 (Nat.le_of_ble_eq_true rfl) (Nat.le_of_ble_eq_true rfl) ?_
    refine kM hk hQ2 hR2 ?_
    first | (rw [qWa, if_pos hw1]; done) | (rw [qWa, if_pos hw1]; rfl) | (rw [qWa, if_neg hw1]; done) | (rw [qWa, if_neg hw1]; rfl)
theorem kX5_isLetter {l : Launch} {G : GX} {N : Nat} {S : Nat → va_E} {K : RK} {x : Int32} (hk : K (.inl (some (.int (b2i (isLet x))))) S) : RetK l G N mX5_isLetter (0, 0, 0, 0) [.int x] S K := by
  refine ret_enter (by decide +kernel) (Nat.le_of_ble_eq_true rfl) (fun X hX h hm => ?_)
  subst hX
  replace h : OK X G N cX5_isLetter RX5 1 (0, 0, 0, 0) := h
  replace hm : OKm X G N K (some .boolean) (0, 0, 0, 0) := hm
  show AW X G 1 N 0 [(0, _)] [] S 0 0
  refine r_iload_n (pc' := 1) h dX5_isLetter_0 rfl rfl ?_
  refine r_bipush (pc' := 3) (v := 97) h dX5_isLetter_1 rfl (by decide) ?_
  refine r_icmp_eq (tgt := 78) (pc' := 6) h dX5_isLetter_3 (by decide) rfl (fun c0 => ?_) (fun c0 => ?_)
  · refine r_iconst (pc' := 79) (v := 1) h dX5_isLetter_78 rfl (by decide) ?_
    refine r_goto (tgt := 83) h dX5_isLetter_79 (by decide) ?_
    refine r_zreturn h hm dX5_isLetter_83 (Nat.le_of_ble_eq_true rfl) (Nat.le_of_ble_eq_true rfl) (by first | rfl | exact nar_b _) ?_
    exact kI hk (by simp [isLet, b2i, c0])
  · refine r_iload_n (pc' := 7) h dX5_isLetter_6 rfl rfl ?_
    refine r_bipush (pc' := 9) (v := 102) h dX5_isLetter_7 rfl (by decide) ?_
    refine r_icmp_eq (tgt := 78) (pc' := 12) h dX5_isLetter_9 (by decide) rfl (fun c1 => ?_) (fun c1 => ?_)
    · refine r_iconst (pc' := 79) (v := 1) h dX5_isLetter_78 rfl (by decide) ?_
      refine r_goto (tgt := 83) h dX5_isLetter_79 (by decide) ?_
      refine r_zreturn h hm dX5_isLetter_83 (Nat.le_of_ble_eq_true rfl) (Nat.le_of_ble_eq_true rfl) (by first | rfl | exact nar_b _) ?_
      exact kI hk (by simp [isLet, b2i, c0, c1])
    · refine r_iload_n (pc' := 13) h dX5_isLetter_12 rfl rfl ?_
      refine r_bipush (pc' := 15) (v := 115) h dX5_isLetter_13 rfl (by decide) ?_
      refine r_icmp_eq (tgt := 78) (pc' := 18) h dX5_isLetter_15 (by decide) rfl (fun c2 => ?_) (fun c2 => ?_)
      · refine r_iconst (pc' := 79) (v := 1) h dX5_isLetter_78 rfl (by decide) ?_
        refine r_goto (tgt := 83) h dX5_isLetter_79 (by decide) ?_
        refine r_zreturn h hm dX5_isLetter_83 (Nat.le_of_ble_eq_true rfl) (Nat.le_of_ble_eq_true rfl) (by first | rfl | exact nar_b _) ?_
        exact kI hk (by simp [isLet, b2i, c0, c1, c2])
      · refine r_iload_n (pc' := 19) h dX5_isLetter_18 rfl rfl ?_
        refine r_bipush (pc' := 21) (v := 114) h dX5_isLetter_19 rfl (by decide) ?_
        refine r_icmp_eq (tgt := 78) (pc' := 24) h dX5_isLetter_21 (by decide) rfl (fun c3 => ?_) (fun c3 => ?_)
        · refine r_iconst (pc' := 79) (v := 1) h dX5_isLetter_78 rfl (by decide) ?_
          refine r_goto (tgt := 83) h dX5_isLetter_79 (by decide) ?_
          refine r_zreturn h hm dX5_isLetter_83 (Nat.le_of_ble_eq_true rfl) (Nat.le_of_ble_eq_true rfl) (by first | rfl | exact nar_b _) ?_
          exact kI hk (by simp [isLet, b2i, c0, c1, c2, c3])
        · refine r_iload_n (pc' := 25) h dX5_isLetter_24 rfl rfl ?_
          refine r_bipush (pc' := 27) (v := 99) h dX5_isLetter_25 rfl (by decide) ?_
          refine r_icmp_eq (tgt := 78) (pc' := 30) h dX5_isLetter_27 (by decide) rfl (fun c4 => ?_) (fun c4 => ?_)
          · refine r_iconst (pc' := 79) (v := 1) h dX5_isLetter_78 rfl (by decide) ?_
            refine r_goto (tgt := 83) h dX5_isLetter_79 (by decide) ?_
            refine r_zreturn h hm dX5_isLetter_83 (Nat.le_of_ble_eq_true rfl) (Nat.le_of_ble_eq_true rfl) (by first | rfl | exact nar_b _) ?_
            exact kI hk (by simp [isLet, b2i, c0, c1, c2, c3, c4])
          · refine r_iload_n (pc' := 31) h dX5_isLetter_30 rfl rfl ?_
            refine r_bipush (pc' := 33) (v := 117) h dX5_isLetter_31 rfl (by decide) ?_
            refine r_icmp_eq (tgt := 78) (pc' := 36) h dX5_isLetter_33 (by decide) rfl (fun c5 => ?_) (fun c5 => ?_)
            · refine r_iconst (pc' := 79) (v := 1) h dX5_isLetter_78 rfl (by decide) ?_
              refine r_goto (tgt := 83) h dX5_isLetter_79 (by decide) ?_
              refine r_zreturn h hm dX5_isLetter_83 (Nat.le_of_ble_eq_true rfl) (Nat.le_of_ble_eq_true rfl) (by first | rfl | exact nar_b _) ?_
              exact kI hk (by simp [isLet, b2i, c0, c1, c2, c3, c4, c5])
            · refine r_iload_n (pc' := 37) h dX5_isLetter_36 rfl rfl ?_
              refine r_bipush (pc' := 39) (v := 119) h dX5_isLetter_37 rfl (by decide) ?_
              refine r_icmp_eq (tgt := 78) (pc' := 42) h dX5_isLetter_39 (by decide) rfl (fun c6 => ?_) (fun c6 => ?_)
              · refine r_iconst (pc' := 79) (v := 1) h dX5_isLetter_78 rfl (by decide) ?_
                refine r_goto (tgt := 83) h dX5_isLetter_79 (by decide) ?_
                refine r_zreturn h hm dX5_isLetter_83 (Nat.le_of_ble_eq_true rfl) (Nat.le_of_ble_eq_true rfl) (by first | rfl | exact nar_b _) ?_
                exact kI hk (by simp [isLet, b2i, c0, c1, c2, c3, c4, c5, c6])
              · refine r_iload_n (pc' := 43) h dX5_isLetter_42 rfl rfl ?_
                refine r_bipush (pc' := 45) (v := 103) h dX5_isLetter_43 rfl (by decide) ?_
                refine r_icmp_eq (tgt := 78) (pc' := 48) h dX5_isLetter_45 (by decide) rfl (fun c7 => ?_) (fun c7 => ?_)
                · refine r_iconst (pc' := 79) (v := 1) h dX5_isLetter_78 rfl (by decide) ?_
                  refine r_goto (tgt := 83) h dX5_isLetter_79 (by decide) ?_
                  refine r_zreturn h hm dX5_isLetter_83 (Nat.le_of_ble_eq_true rfl) (Nat.le_of_ble_eq_true rfl) (by first | rfl | exact nar_b _) ?_
                  exact kI hk (by simp [isLet, b2i, c0, c1, c2, c3, c4, c5, c6, c7])
                · refine r_iload_n (pc' := 49) h dX5_isLetter_48 rfl rfl ?_
                  refine r_bipush (pc' := 51) (v := 100) h dX5_isLetter_49 rfl (by decide) ?_
                  refine r_icmp_eq (tgt := 78) (pc' := 54) h dX5_isLetter_51 (by decide) rfl (fun c8 => ?_) (fun c8 => ?_)
                  · refine r_iconst (pc' := 79) (v := 1) h dX5_isLetter_78 rfl (by decide) ?_
                    refine r_goto (tgt := 83) h dX5_isLetter_79 (by decide) ?_
                    refine r_zreturn h hm dX5_isLetter_83 (Nat.le_of_ble_eq_true rfl) (Nat.le_of_ble_eq_true rfl) (by first | rfl | exact nar_b _) ?_
                    exact kI hk (by simp [isLet, b2i, c0, c1, c2, c3, c4, c5, c6, c7, c8])
                  · refine r_iload_n (pc' := 55) h dX5_isLetter_54 rfl rfl ?_
                    refine r_bipush (pc' := 57) (v := 118) h dX5_isLetter_55 rfl (by decide) ?_
                    refine r_icmp_eq (tgt := 78) (pc' := 60) h dX5_isLetter_57 (by decide) rfl (fun c9 => ?_) (fun c9 => ?_)
                    · refine r_iconst (pc' := 79) (v := 1) h dX5_isLetter_78 rfl (by decide) ?_
                      refine r_goto (tgt := 83) h dX5_isLetter_79 (by decide) ?_
                      refine r_zreturn h hm dX5_isLetter_83 (Nat.le_of_ble_eq_true rfl) (Nat.le_of_ble_eq_true rfl) (by first | rfl | exact nar_b _) ?_
                      exact kI hk (by simp [isLet, b2i, c0, c1, c2, c3, c4, c5, c6, c7, c8, c9])
                    · refine r_iload_n (pc' := 61) h dX5_isLetter_60 rfl rfl ?_
                      refine r_bipush (pc' := 63) (v := 98) h dX5_isLetter_61 rfl (by decide) ?_
                      refine r_icmp_eq (tgt := 78) (pc' := 66) h dX5_isLetter_63 (by decide) rfl (fun c10 => ?_) (fun c10 => ?_)
                      · refine r_iconst (pc' := 79) (v := 1) h dX5_isLetter_78 rfl (by decide) ?_
                        refine r_goto (tgt := 83) h dX5_isLetter_79 (by decide) ?_
                        refine r_zreturn h hm dX5_isLetter_83 (Nat.le_of_ble_eq_true rfl) (Nat.le_of_ble_eq_true rfl) (by first | rfl | exact nar_b _) ?_
                        exact kI hk (by simp [isLet, b2i, c0, c1, c2, c3, c4, c5, c6, c7, c8, c9, c10])
                      · refine r_iload_n (pc' := 67) h dX5_isLetter_66 rfl rfl ?_
                        refine r_bipush (pc' := 69) (v := 113) h dX5_isLetter_67 rfl (by decide) ?_
                        refine r_icmp_eq (tgt := 78) (pc' := 72) h dX5_isLetter_69 (by decide) rfl (fun c11 => ?_) (fun c11 => ?_)
                        · refine r_iconst (pc' := 79) (v := 1) h dX5_isLetter_78 rfl (by decide) ?_
                          refine r_goto (tgt := 83) h dX5_isLetter_79 (by decide) ?_
                          refine r_zreturn h hm dX5_isLetter_83 (Nat.le_of_ble_eq_true rfl) (Nat.le_of_ble_eq_true rfl) (by first | rfl | exact nar_b _) ?_
                          exact kI hk (by simp [isLet, b2i, c0, c1, c2, c3, c4, c5, c6, c7, c8, c9, c10, c11])
                        · refine r_iload_n (pc' := 73) h dX5_isLetter_72 rfl rfl ?_
                          refine r_bipush (pc' := 75) (v := 116) h dX5_isLetter_73 rfl (by decide) ?_
                          refine r_icmp_ne (tgt := 82) (pc' := 78) h dX5_isLetter_75 (by decide) rfl (fun c12 => ?_) (fun c12 => ?_)
                          · refine r_iconst (pc' := 83) (v := 0) h dX5_isLetter_82 rfl (by decide) ?_
                            refine r_zreturn h hm dX5_isLetter_83 (Nat.le_of_ble_eq_true rfl) (Nat.le_of_ble_eq_true rfl) (by first | rfl | exact nar_b _) ?_
                            exact kI hk (by simp [isLet, b2i, c0, c1, c2, c3, c4, c5, c6, c7, c8, c9, c10, c11, c12])
                          · refine r_iconst (pc' := 79) (v := 1) h dX5_isLetter_78 rfl (by decide) ?_
                            refine r_goto (tgt := 83) h dX5_isLetter_79 (by decide) ?_
                            refine r_zreturn h hm dX5_isLetter_83 (Nat.le_of_ble_eq_true rfl) (Nat.le_of_ble_eq_true rfl) (by first | rfl | exact nar_b _) ?_
                            exact kI hk (by simp [isLet, b2i, c0, c1, c2, c3, c4, c5, c6, c7, c8, c9, c10, c11, c12])
set_option maxHeartbeats 6000000 in
theorem kX5_command {l : Launch} {G : GX} {N : Nat} {S : Nat → va_E} {K : RK} {Q : MM} (hQ : isM G N S Q) {p q : Nat} (hp : hP Q p q) {m : Nat} (hcm : mI Q 16 = nI m) (hm6 : m ≤ 60) (hk : ∀ S1, isM G N S1 (qCo Q) → GR S S1 → K (.inl none) S1) : RetK l G N mX5_command (3, 66, 0, 0) [.ref (ad G 119)] S K := by
  refine ret_enter (by decide +kernel) (Nat.le_of_ble_eq_true rfl) (fun X hX h hm => ?_)
  subst hX
  replace h : OK X G N cX5_command RX5 4 (3, 66, 0, 0) := h
  replace hm : OKm X G N K none (3, 66, 0, 0) := hm
  show AW X G 4 N 0 [(0, _)] [] S 0 0
  refine r_iconst (pc' := 1) (v := 4) h dX5_command_0 rfl (by decide) ?_
  refine r_aload_n (pc' := 2) h dX5_command_1 rfl rfl ?_
  refine gX5_218 (pc' := 5) h dX5_command_2 rfl hQ.l0 hQ.o rfl ?_
  refine r_imul (pc' := 6) h dX5_command_5 rfl ?_
  refine r_istoren (j := 1) (pc' := 7) h rfl dX5_command_6 rfl (by decide) rfl ?_
  refine r_aload_n (pc' := 8) h dX5_command_7 rfl rfl ?_
  refine r_dup (pc' := 9) h dX5_command_8 rfl rfl ?_
  refine gX5_218 (pc' := 12) h dX5_command_9 rfl hQ.l0 hQ.o rfl ?_
  refine r_iconst (pc' := 13) (v := 1) h dX5_command_12 rfl (by decide) ?_
  refine r_iadd (pc' := 14) h dX5_command_13 rfl ?_
  refine pX5_218 (pc' := 17) h dX5_command_14 rfl hQ.l0 hQ.o (Nat.le_of_ble_eq_true rfl) ?_
  refine wM16 hQ (fun S1 hQ1 hR1 => ?_)
  refine r_aload_n (pc' := 18) h dX5_command_17 rfl rfl ?_
  refine r_callV0 (pc' := 21) (M := mX5_sign) h hm dX5_command_18 rfl lX5_209 vX5_sign rfl hQ1.l0 hQ1.o (Nat.le_of_ble_eq_true rfl) (rrb rfl) (kX5_sign hQ1 (hp : hP (sMI Q 16 (mI Q 16 + 1)) p q) ?_)
  show AW X G _ _ _ _ (.int (qSg Q) :: _) _ _ _
  refine r_istoren (j := 2) (pc' := 22) h rfl dX5_command_21 rfl (by decide) rfl ?_
  refine r_iconst (pc' := 23) (v := 0) h dX5_command_22 rfl (by decide) ?_
  refine r_istoren (j := 3) (pc' := 24) h rfl dX5_command_23 rfl (by decide) rfl ?_
  have loop : ∀ (n j : Nat), j ≤ 4 → 4 - j < n → ∀ Sj, isM G N Sj (sMC (sMI Q 16 (mI Q 16 + 1)) (zc (mC Q) (4 * mI Q 16) j)) → GR S Sj → AW X G 4 N 24 [(0, .ref (ad G 119)), (1, .int (4 * mI Q 16)), (2, .int (qSg Q)), (3, .int (nI j))] [] Sj 0 0 := by
    intro n
    induction n with
    | zero => intro j h1 h2; exact absurd h2 (by omega)
    | succ n ih =>
      intro j h1 h2 Sj hj1 hr1
      refine r_iload_n (pc' := 25) h dX5_command_24 rfl rfl ?_
      refine r_iconst (pc' := 26) (v := 4) h dX5_command_25 rfl (by decide) ?_
      refine r_icmp_ge (tgt := 44) (pc' := 29) h dX5_command_26 (by decide) rfl (fun c0 => ?_) (fun c0 => ?_)
      · try simp only [mM_sI, mM_sM] at c0
        have ej := lp_ge (c := 4) rfl (by decide) h1 c0
        subst ej
        refine r_iload_n (pc' := 45) h dX5_command_44 rfl rfl ?_
        refine r_callS1 (pc' := 48) (M := mX5_isLetter) h hm dX5_command_45 rfl lX5_221 vX5_isLetter (Nat.le_of_ble_eq_true rfl) (rrb rfl) (kX5_isLetter ?_)
        show AW X G _ _ _ _ _ _ _ _
        refine r_if_neb (tgt := 60) (pc' := 51) h dX5_command_48 (by decide) rfl (fun c1 => ?_) (fun c1 => ?_)
        · try simp only [mM_sI, mM_sM] at c1
          have hlt := c1
          refine r_aload_n (pc' := 61) h dX5_command_60 rfl rfl ?_
          refine r_dup (pc' := 62) h dX5_command_61 rfl rfl ?_
          refine gX5_203 (pc' := 65) h dX5_command_62 rfl hj1.l0 hj1.o rfl ?_
          refine r_iconst (pc' := 66) (v := 1) h dX5_command_65 rfl (by decide) ?_
          refine r_iadd (pc' := 67) h dX5_command_66 rfl ?_
          refine pX5_203 (pc' := 70) h dX5_command_67 rfl hj1.l0 hj1.o (Nat.le_of_ble_eq_true rfl) ?_
          refine wM12 hj1 (fun S2 hQ2 hR2 => ?_)
          refine r_aload_n (pc' := 71) h dX5_command_70 rfl rfl ?_
          refine gX5_24 (pc' := 74) h dX5_command_71 rfl hQ2.l0 hQ2.o rfl ?_
          refine r_iload_n (pc' := 75) h dX5_command_74 rfl rfl ?_
          refine r_iload_n (pc' := 76) h dX5_command_75 rfl rfl ?_
          refine r_iast (pc' := 77) h dX5_command_76 rfl hQ2.l4 hQ2.r4 (ix_C0 hcm hm6) ?_
          refine wU3 hQ2 (fun S3 hQ3 hR3 => ?_)
          have hQ3 : isM G N S3 (qC4 Q) := hQ3
          have hp4 := hP_C4 hp (qSg_lt hp (isLet_ne hlt))
          refine r_iload_n (pc' := 78) h dX5_command_77 rfl rfl ?_
          refine r_tsw h dX5_command_78 [(97, 109), (98, 196), (99, 166), (100, 106), (115, 166), (118, 106), (119, 138)] (by decide) (by decide) (by decide) (by decide) ?_
          refine ⟨fun e2 => ?_, fun e2 => ?_⟩
          · have e2 := Int32.toInt_inj.mp (e2.trans (by decide : (97 : Int) = Int32.toInt 97))
            show AW X G _ _ 187 _ _ _ _ _
            refine r_iconst (pc' := 188) (v := 1) h dX5_command_187 rfl (by decide) ?_
            refine r_istoren (j := 3) (pc' := 189) h rfl dX5_command_188 rfl (by decide) rfl ?_
            have inner : ∀ (n2 i : Nat), i ≤ 3 → 3 - i < n2 → ∀ Sj2, isM G N Sj2 (qA3 (qC4 Q) (4 * mI Q 16) i) → GR S Sj2 → AW X G 4 N 189 [(0, .ref (ad G 119)), (1, .int (4 * mI Q 16)), (2, .int (qSg Q)), (3, .int (nI (i + 1)))] [] Sj2 0 0 := by
              intro n2
              induction n2 with
              | zero => intro i h3 h4; exact absurd h4 (by omega)
              | succ n2 ih2 =>
                intro i h3 h4 Sj2 hj2 hr2
                obtain ⟨pa, hpa, hpA⟩ := hP_A3 (i := 4 * mI Q 16) i _ hp4
                refine r_iload_n (pc' := 190) h dX5_command_189 rfl rfl ?_
                refine r_iconst (pc' := 191) (v := 4) h dX5_command_190 rfl (by decide) ?_
                refine r_icmp_ge (tgt := 213) (pc' := 194) h dX5_command_191 (by decide) rfl (fun c3 => ?_) (fun c3 => ?_)
                · try simp only [mM_sI, mM_sM] at c3
                  have ej2 : i = 3 := by rcases Nat.lt_or_ge i 3 with a | a; exact absurd c3 (nI_ge (a := i + 1) (b := 4) (by omega) (by decide)); omega
                  subst ej2
                  refine r_goto (tgt := 331) h dX5_command_213 (by decide) ?_
                  refine r_return h hm dX5_command_331 (Nat.le_of_ble_eq_true rfl) (Nat.le_of_ble_eq_true rfl) ?_
                  exact hk _ (by rw [qCo, if_pos hlt, qKi]; first | (rw [if_pos e2]; exact hj2) | (rw [if_neg e2]; exact hj2)) hr2
                · try simp only [mM_sI, mM_sM] at c3
                  have hi : i < 3 := by rcases Nat.lt_or_ge i 3 with a | a; exact a; exact absurd (nI_le (a := 4) (b := i + 1) (by omega) (by omega)) c3
                  refine r_aload_n (pc' := 195) h dX5_command_194 rfl rfl ?_
                  refine gX5_24 (pc' := 198) h dX5_command_195 rfl hj2.l0 hj2.o rfl ?_
                  refine r_iload_n (pc' := 199) h dX5_command_198 rfl rfl ?_
                  refine r_iload_n (pc' := 200) h dX5_command_199 rfl rfl ?_
                  refine r_iadd (pc' := 201) h dX5_command_200 rfl ?_
                  refine r_aload_n (pc' := 202) h dX5_command_201 rfl rfl ?_
                  refine r_iconst (pc' := 203) (v := 1) h dX5_command_202 rfl (by decide) ?_
                  refine r_callV1 (pc' := 206) (M := mX5_number) h hm dX5_command_203 rfl lX5_215 vX5_number rfl hj2.l0 hj2.o (Nat.le_of_ble_eq_true rfl) (rrb rfl) (kX5_number (d := 1) hj2 hpA (by decide) (fun S4 hQ4 hR4 => ?_))
                  show AW X G _ _ _ _ _ _ _ _
                  obtain ⟨p4, hpp4, hp4⟩ := hP_Nu' hQ4 hpA
                  refine r_iast (pc' := 207) h dX5_command_206 rfl hQ4.l4 hQ4.r4 (ix_C hcm hm6 (by omega)) ?_
                  refine wU3 hQ4 (fun S5 hQ5 hR5 => ?_)
                  refine r_iinc (pc' := 210) (v := 1) h dX5_command_207 rfl (by decide) (by decide) rfl rfl ?_
                  refine r_goto (tgt := 189) h dX5_command_210 (by decide) ?_
                  exact aw_cast (by simp [nI_1]) (ih2 (i + 1) (by omega) (by omega) _ hQ5 (((hr2).trans hR4).trans hR5))
            exact inner 5 0 (Nat.zero_le _) (by omega) _ hQ3 (((hr1).trans hR2).trans hR3)
          · have e2 : ¬ _ = (97 : Int32) := fun z => e2 ((congrArg Int32.toInt z).trans (by decide : Int32.toInt 97 = (97 : Int)))
            refine ⟨fun e4 => ?_, fun e4 => ?_⟩
            · have e4 := Int32.toInt_inj.mp (e4.trans (by decide : (98 : Int) = Int32.toInt 98))
              show AW X G _ _ 274 _ _ _ _ _
              refine r_aload_n (pc' := 275) h dX5_command_274 rfl rfl ?_
              refine gX5_24 (pc' := 278) h dX5_command_275 rfl hQ3.l0 hQ3.o rfl ?_
              refine r_iload_n (pc' := 279) h dX5_command_278 rfl rfl ?_
              refine r_iconst (pc' := 280) (v := 1) h dX5_command_279 rfl (by decide) ?_
              refine r_iadd (pc' := 281) h dX5_command_280 rfl ?_
              refine r_aload_n (pc' := 282) h dX5_command_281 rfl rfl ?_
              refine r_iconst (pc' := 283) (v := 3) h dX5_command_282 rfl (by decide) ?_
              refine r_callV1 (pc' := 286) (M := mX5_number) h hm dX5_command_283 rfl lX5_215 vX5_number rfl hQ3.l0 hQ3.o (Nat.le_of_ble_eq_true rfl) (rrb rfl) (kX5_number (d := 3) hQ3 hp4 (by decide) (fun S6 hQ6 hR6 => ?_))
              show AW X G _ _ _ _ _ _ _ _
              obtain ⟨p6, hpp6, hp6⟩ := hP_Nu' hQ6 hp4
              refine r_iast (pc' := 287) h dX5_command_286 rfl hQ6.l4 hQ6.r4 (ix_C (k := 1) hcm hm6 (by decide)) ?_
              refine wU3 hQ6 (fun S7 hQ7 hR7 => ?_)
              refine r_aload_n (pc' := 288) h dX5_command_287 rfl rfl ?_
              refine gX5_24 (pc' := 291) h dX5_command_288 rfl hQ7.l0 hQ7.o rfl ?_
              refine r_iload_n (pc' := 292) h dX5_command_291 rfl rfl ?_
              refine r_iconst (pc' := 293) (v := 2) h dX5_command_292 rfl (by decide) ?_
              refine r_iadd (pc' := 294) h dX5_command_293 rfl ?_
              refine r_aload_n (pc' := 295) h dX5_command_294 rfl rfl ?_
              refine r_bipush (pc' := 297) (v := 58) h dX5_command_295 rfl (by decide) ?_
              refine r_callV1 (pc' := 300) (M := mX5_behind) h hm dX5_command_297 rfl lX5_227 vX5_behind rfl hQ7.l0 hQ7.o (Nat.le_of_ble_eq_true rfl) (rrb rfl) (kX5_behind hQ7 (hP_sC hp6) (by decide) (fun S8 hQ8 hR8 => ?_))
              show AW X G _ _ _ _ _ _ _ _
              obtain ⟨p8, hpp8, hp8⟩ := hP_Be' hQ8 (hP_sC hp6) (by decide)
              refine r_iast (pc' := 301) h dX5_command_300 rfl hQ8.l4 hQ8.r4 (ix_C (k := 2) hcm hm6 (by decide)) ?_
              refine wU3 hQ8 (fun S9 hQ9 hR9 => ?_)
              refine r_aload_n (pc' := 302) h dX5_command_301 rfl rfl ?_
              refine gX5_24 (pc' := 305) h dX5_command_302 rfl hQ9.l0 hQ9.o rfl ?_
              refine r_iload_n (pc' := 306) h dX5_command_305 rfl rfl ?_
              refine r_iconst (pc' := 307) (v := 3) h dX5_command_306 rfl (by decide) ?_
              refine r_iadd (pc' := 308) h dX5_command_307 rfl ?_
              refine r_aload_n (pc' := 309) h dX5_command_308 rfl rfl ?_
              refine r_bipush (pc' := 311) (v := 42) h dX5_command_309 rfl (by decide) ?_
              refine r_callV1 (pc' := 314) (M := mX5_behind) h hm dX5_command_311 rfl lX5_227 vX5_behind rfl hQ9.l0 hQ9.o (Nat.le_of_ble_eq_true rfl) (rrb rfl) (kX5_behind hQ9 (hP_sC hp8) (by decide) (fun S10 hQ10 hR10 => ?_))
              show AW X G _ _ _ _ _ _ _ _
              obtain ⟨p10, hpp10, hp10⟩ := hP_Be' hQ10 (hP_sC hp8) (by decide)
              refine r_iast (pc' := 315) h dX5_command_314 rfl hQ10.l4 hQ10.r4 (ix_C (k := 3) hcm hm6 (by decide)) ?_
              refine wU3 hQ10 (fun S11 hQ11 hR11 => ?_)
              refine r_goto (tgt := 331) h dX5_command_315 (by decide) ?_
              refine r_return h hm dX5_command_331 (Nat.le_of_ble_eq_true rfl) (Nat.le_of_ble_eq_true rfl) ?_
              exact hk _ (by rw [qCo, if_pos hlt, qKi]; first | (rw [if_neg e2, if_pos e4]; exact hQ11) | (rw [if_neg e2, if_neg e4]; exact hQ11)) (((((((((hr1).trans hR2).trans hR3).trans hR6).trans hR7).trans hR8).trans hR9).trans hR10).trans hR11)
            · have e4 : ¬ _ = (98 : Int32) := fun z => e4 ((congrArg Int32.toInt z).trans (by decide : Int32.toInt 98 = (98 : Int)))
              refine ⟨fun e5 => ?_, fun e5 => ?_⟩
              · have e5 := Int32.toInt_inj.mp (e5.trans (by decide : (99 : Int) = Int32.toInt 99))
                show AW X G _ _ 244 _ _ _ _ _
                refine r_aload_n (pc' := 245) h dX5_command_244 rfl rfl ?_
                refine gX5_24 (pc' := 248) h dX5_command_245 rfl hQ3.l0 hQ3.o rfl ?_
                refine r_iload_n (pc' := 249) h dX5_command_248 rfl rfl ?_
                refine r_iconst (pc' := 250) (v := 1) h dX5_command_249 rfl (by decide) ?_
                refine r_iadd (pc' := 251) h dX5_command_250 rfl ?_
                refine r_aload_n (pc' := 252) h dX5_command_251 rfl rfl ?_
                refine r_iconst (pc' := 253) (v := 3) h dX5_command_252 rfl (by decide) ?_
                refine r_callV1 (pc' := 256) (M := mX5_number) h hm dX5_command_253 rfl lX5_215 vX5_number rfl hQ3.l0 hQ3.o (Nat.le_of_ble_eq_true rfl) (rrb rfl) (kX5_number (d := 3) hQ3 hp4 (by decide) (fun S12 hQ12 hR12 => ?_))
                show AW X G _ _ _ _ _ _ _ _
                obtain ⟨p12, hpp12, hp12⟩ := hP_Nu' hQ12 hp4
                refine r_iast (pc' := 257) h dX5_command_256 rfl hQ12.l4 hQ12.r4 (ix_C (k := 1) hcm hm6 (by decide)) ?_
                refine wU3 hQ12 (fun S13 hQ13 hR13 => ?_)
                refine r_aload_n (pc' := 258) h dX5_command_257 rfl rfl ?_
                refine gX5_24 (pc' := 261) h dX5_command_258 rfl hQ13.l0 hQ13.o rfl ?_
                refine r_iload_n (pc' := 262) h dX5_command_261 rfl rfl ?_
                refine r_iconst (pc' := 263) (v := 2) h dX5_command_262 rfl (by decide) ?_
                refine r_iadd (pc' := 264) h dX5_command_263 rfl ?_
                refine r_aload_n (pc' := 265) h dX5_command_264 rfl rfl ?_
                refine r_bipush (pc' := 267) (v := 58) h dX5_command_265 rfl (by decide) ?_
                refine r_callV1 (pc' := 270) (M := mX5_behind) h hm dX5_command_267 rfl lX5_227 vX5_behind rfl hQ13.l0 hQ13.o (Nat.le_of_ble_eq_true rfl) (rrb rfl) (kX5_behind hQ13 (hP_sC hp12) (by decide) (fun S14 hQ14 hR14 => ?_))
                show AW X G _ _ _ _ _ _ _ _
                obtain ⟨p14, hpp14, hp14⟩ := hP_Be' hQ14 (hP_sC hp12) (by decide)
                refine r_iast (pc' := 271) h dX5_command_270 rfl hQ14.l4 hQ14.r4 (ix_C (k := 2) hcm hm6 (by decide)) ?_
                refine wU3 hQ14 (fun S15 hQ15 hR15 => ?_)
                refine r_goto (tgt := 331) h dX5_command_271 (by decide) ?_
                refine r_return h hm dX5_command_331 (Nat.le_of_ble_eq_true rfl) (Nat.le_of_ble_eq_true rfl) ?_
                exact hk _ (by rw [qCo, if_pos hlt, qKi]; first | (rw [if_neg e2, if_neg e4, if_pos e5]; exact hQ15) | (rw [if_neg e2, if_neg e4, if_neg e5]; exact hQ15)) (((((((hr1).trans hR2).trans hR3).trans hR12).trans hR13).trans hR14).trans hR15)
              · have e5 : ¬ _ = (99 : Int32) := fun z => e5 ((congrArg Int32.toInt z).trans (by decide : Int32.toInt 99 = (99 : Int)))
                refine ⟨fun e6 => ?_, fun e6 => ?_⟩
                · have e6 := Int32.toInt_inj.mp (e6.trans (by decide : (100 : Int) = Int32.toInt 100))
                  show AW X G _ _ 184 _ _ _ _ _
                  refine r_goto (tgt := 331) h dX5_command_184 (by decide) ?_
                  refine r_return h hm dX5_command_331 (Nat.le_of_ble_eq_true rfl) (Nat.le_of_ble_eq_true rfl) ?_
                  exact hk _ (by rw [qCo, if_pos hlt, qKi]; first | (rw [if_neg e2, if_neg e4, if_neg e5, if_pos e6]; exact hQ3) | (rw [if_neg e2, if_neg e4, if_neg e5, if_neg e6]; exact hQ3)) (((hr1).trans hR2).trans hR3)
                · have e6 : ¬ _ = (100 : Int32) := fun z => e6 ((congrArg Int32.toInt z).trans (by decide : Int32.toInt 100 = (100 : Int)))
                  refine ⟨fun e7 => ?_, fun e7 => ?_⟩
                  · have e7 := Int32.toInt_inj.mp (e7.trans (by decide : (115 : Int) = Int32.toInt 115))
                    show AW X G _ _ 244 _ _ _ _ _
                    refine r_aload_n (pc' := 245) h dX5_command_244 rfl rfl ?_
                    refine gX5_24 (pc' := 248) h dX5_command_245 rfl hQ3.l0 hQ3.o rfl ?_
                    refine r_iload_n (pc' := 249) h dX5_command_248 rfl rfl ?_
                    refine r_iconst (pc' := 250) (v := 1) h dX5_command_249 rfl (by decide) ?_
                    refine r_iadd (pc' := 251) h dX5_command_250 rfl ?_
                    refine r_aload_n (pc' := 252) h dX5_command_251 rfl rfl ?_
                    refine r_iconst (pc' := 253) (v := 3) h dX5_command_252 rfl (by decide) ?_
                    refine r_callV1 (pc' := 256) (M := mX5_number) h hm dX5_command_253 rfl lX5_215 vX5_number rfl hQ3.l0 hQ3.o (Nat.le_of_ble_eq_true rfl) (rrb rfl) (kX5_number (d := 3) hQ3 hp4 (by decide) (fun S16 hQ16 hR16 => ?_))
                    show AW X G _ _ _ _ _ _ _ _
                    obtain ⟨p16, hpp16, hp16⟩ := hP_Nu' hQ16 hp4
                    refine r_iast (pc' := 257) h dX5_command_256 rfl hQ16.l4 hQ16.r4 (ix_C (k := 1) hcm hm6 (by decide)) ?_
                    refine wU3 hQ16 (fun S17 hQ17 hR17 => ?_)
                    refine r_aload_n (pc' := 258) h dX5_command_257 rfl rfl ?_
                    refine gX5_24 (pc' := 261) h dX5_command_258 rfl hQ17.l0 hQ17.o rfl ?_
                    refine r_iload_n (pc' := 262) h dX5_command_261 rfl rfl ?_
                    refine r_iconst (pc' := 263) (v := 2) h dX5_command_262 rfl (by decide) ?_
                    refine r_iadd (pc' := 264) h dX5_command_263 rfl ?_
                    refine r_aload_n (pc' := 265) h dX5_command_264 rfl rfl ?_
                    refine r_bipush (pc' := 267) (v := 58) h dX5_command_265 rfl (by decide) ?_
                    refine r_callV1 (pc' := 270) (M := mX5_behind) h hm dX5_command_267 rfl lX5_227 vX5_behind rfl hQ17.l0 hQ17.o (Nat.le_of_ble_eq_true rfl) (rrb rfl) (kX5_behind hQ17 (hP_sC hp16) (by decide) (fun S18 hQ18 hR18 => ?_))
                    show AW X G _ _ _ _ _ _ _ _
                    obtain ⟨p18, hpp18, hp18⟩ := hP_Be' hQ18 (hP_sC hp16) (by decide)
                    refine r_iast (pc' := 271) h dX5_command_270 rfl hQ18.l4 hQ18.r4 (ix_C (k := 2) hcm hm6 (by decide)) ?_
                    refine wU3 hQ18 (fun S19 hQ19 hR19 => ?_)
                    refine r_goto (tgt := 331) h dX5_command_271 (by decide) ?_
                    refine r_return h hm dX5_command_331 (Nat.le_of_ble_eq_true rfl) (Nat.le_of_ble_eq_true rfl) ?_
                    exact hk _ (by rw [qCo, if_pos hlt, qKi]; first | (rw [if_neg e2, if_neg e4, if_neg e5, if_neg e6, if_pos e7]; exact hQ19) | (rw [if_neg e2, if_neg e4, if_neg e5, if_neg e6, if_neg e7]; exact hQ19)) (((((((hr1).trans hR2).trans hR3).trans hR16).trans hR17).trans hR18).trans hR19)
                  · have e7 : ¬ _ = (115 : Int32) := fun z => e7 ((congrArg Int32.toInt z).trans (by decide : Int32.toInt 115 = (115 : Int)))
                    refine ⟨fun e8 => ?_, fun e8 => ?_⟩
                    · have e8 := Int32.toInt_inj.mp (e8.trans (by decide : (118 : Int) = Int32.toInt 118))
                      show AW X G _ _ 184 _ _ _ _ _
                      refine r_goto (tgt := 331) h dX5_command_184 (by decide) ?_
                      refine r_return h hm dX5_command_331 (Nat.le_of_ble_eq_true rfl) (Nat.le_of_ble_eq_true rfl) ?_
                      exact hk _ (by rw [qCo, if_pos hlt, qKi]; first | (rw [if_neg e2, if_neg e4, if_neg e5, if_neg e6, if_neg e7, if_pos e8]; exact hQ3) | (rw [if_neg e2, if_neg e4, if_neg e5, if_neg e6, if_neg e7, if_neg e8]; exact hQ3)) (((hr1).trans hR2).trans hR3)
                    · have e8 : ¬ _ = (118 : Int32) := fun z => e8 ((congrArg Int32.toInt z).trans (by decide : Int32.toInt 118 = (118 : Int)))
                      refine ⟨fun e9 => ?_, fun e9 => ?_⟩
                      · have e9 := Int32.toInt_inj.mp (e9.trans (by decide : (119 : Int) = Int32.toInt 119))
                        show AW X G _ _ 216 _ _ _ _ _
                        refine r_aload_n (pc' := 217) h dX5_command_216 rfl rfl ?_
                        refine gX5_24 (pc' := 220) h dX5_command_217 rfl hQ3.l0 hQ3.o rfl ?_
                        refine r_iload_n (pc' := 221) h dX5_command_220 rfl rfl ?_
                        refine r_iconst (pc' := 222) (v := 1) h dX5_command_221 rfl (by decide) ?_
                        refine r_iadd (pc' := 223) h dX5_command_222 rfl ?_
                        refine r_aload_n (pc' := 224) h dX5_command_223 rfl rfl ?_
                        refine r_callV0 (pc' := 227) (M := mX5_way) h hm dX5_command_224 rfl lX5_224 vX5_way rfl hQ3.l0 hQ3.o (Nat.le_of_ble_eq_true rfl) (rrb rfl) (kX5_way hQ3 hp4 (fun S20 hQ20 hR20 => ?_))
                        show AW X G _ _ _ _ _ _ _ _
                        obtain ⟨p20, hpp20, hp20⟩ := hP_Wa' hQ20 hp4
                        refine r_iast (pc' := 228) h dX5_command_227 rfl hQ20.l4 hQ20.r4 (ix_C (k := 1) hcm hm6 (by decide)) ?_
                        refine wU3 hQ20 (fun S21 hQ21 hR21 => ?_)
                        refine r_aload_n (pc' := 229) h dX5_command_228 rfl rfl ?_
                        refine gX5_24 (pc' := 232) h dX5_command_229 rfl hQ21.l0 hQ21.o rfl ?_
                        refine r_iload_n (pc' := 233) h dX5_command_232 rfl rfl ?_
                        refine r_iconst (pc' := 234) (v := 2) h dX5_command_233 rfl (by decide) ?_
                        refine r_iadd (pc' := 235) h dX5_command_234 rfl ?_
                        refine r_aload_n (pc' := 236) h dX5_command_235 rfl rfl ?_
                        refine r_iconst (pc' := 237) (v := 3) h dX5_command_236 rfl (by decide) ?_
                        refine r_callV1 (pc' := 240) (M := mX5_number) h hm dX5_command_237 rfl lX5_215 vX5_number rfl hQ21.l0 hQ21.o (Nat.le_of_ble_eq_true rfl) (rrb rfl) (kX5_number (d := 3) hQ21 (hP_sC hp20) (by decide) (fun S22 hQ22 hR22 => ?_))
                        show AW X G _ _ _ _ _ _ _ _
                        obtain ⟨p22, hpp22, hp22⟩ := hP_Nu' hQ22 (hP_sC hp20)
                        refine r_iast (pc' := 241) h dX5_command_240 rfl hQ22.l4 hQ22.r4 (ix_C (k := 2) hcm hm6 (by decide)) ?_
                        refine wU3 hQ22 (fun S23 hQ23 hR23 => ?_)
                        refine r_goto (tgt := 331) h dX5_command_241 (by decide) ?_
                        refine r_return h hm dX5_command_331 (Nat.le_of_ble_eq_true rfl) (Nat.le_of_ble_eq_true rfl) ?_
                        exact hk _ (by rw [qCo, if_pos hlt, qKi]; first | (rw [if_neg e2, if_neg e4, if_neg e5, if_neg e6, if_neg e7, if_neg e8, if_pos e9]; exact hQ23) | (rw [if_neg e2, if_neg e4, if_neg e5, if_neg e6, if_neg e7, if_neg e8, if_neg e9]; exact hQ23)) (((((((hr1).trans hR2).trans hR3).trans hR20).trans hR21).trans hR22).trans hR23)
                      · have e9 : ¬ _ = (119 : Int32) := fun z => e9 ((congrArg Int32.toInt z).trans (by decide : Int32.toInt 119 = (119 : Int)))
                        show AW X G _ _ 318 _ _ _ _ _
                        refine r_aload_n (pc' := 319) h dX5_command_318 rfl rfl ?_
                        refine gX5_24 (pc' := 322) h dX5_command_319 rfl hQ3.l0 hQ3.o rfl ?_
                        refine r_iload_n (pc' := 323) h dX5_command_322 rfl rfl ?_
                        refine r_iconst (pc' := 324) (v := 1) h dX5_command_323 rfl (by decide) ?_
                        refine r_iadd (pc' := 325) h dX5_command_324 rfl ?_
                        refine r_aload_n (pc' := 326) h dX5_command_325 rfl rfl ?_
                        refine r_iconst (pc' := 327) (v := 3) h dX5_command_326 rfl (by decide) ?_
                        refine r_callV1 (pc' := 330) (M := mX5_number) h hm dX5_command_327 rfl lX5_215 vX5_number rfl hQ3.l0 hQ3.o (Nat.le_of_ble_eq_true rfl) (rrb rfl) (kX5_number (d := 3) hQ3 hp4 (by decide) (fun S24 hQ24 hR24 => ?_))
                        show AW X G _ _ _ _ _ _ _ _
                        obtain ⟨p24, hpp24, hp24⟩ := hP_Nu' hQ24 hp4
                        refine r_iast (pc' := 331) h dX5_command_330 rfl hQ24.l4 hQ24.r4 (ix_C (k := 1) hcm hm6 (by decide)) ?_
                        refine wU3 hQ24 (fun S25 hQ25 hR25 => ?_)
                        refine r_return h hm dX5_command_331 (Nat.le_of_ble_eq_true rfl) (Nat.le_of_ble_eq_true rfl) ?_
                        exact hk _ (by rw [qCo, if_pos hlt, qKi]; first | (rw [if_neg e2, if_neg e4, if_neg e5, if_neg e6, if_neg e7, if_neg e8, if_pos e9]; exact hQ25) | (rw [if_neg e2, if_neg e4, if_neg e5, if_neg e6, if_neg e7, if_neg e8, if_neg e9]; exact hQ25)) (((((hr1).trans hR2).trans hR3).trans hR24).trans hR25)
        · try simp only [mM_sI, mM_sM] at c1
          have hlt : ¬ isLet (qSg Q) = true := by rw [c1]; decide
          refine r_aload_n (pc' := 52) h dX5_command_51 rfl rfl ?_
          refine r_aload_n (pc' := 53) h dX5_command_52 rfl rfl ?_
          refine gX5_203 (pc' := 56) h dX5_command_53 rfl hj1.l0 hj1.o rfl ?_
          refine pX5_206 (pc' := 59) h dX5_command_56 rfl hj1.l0 hj1.o (Nat.le_of_ble_eq_true rfl) ?_
          refine wM13 hj1 (fun S26 hQ26 hR26 => ?_)
          refine r_return h hm dX5_command_59 (Nat.le_of_ble_eq_true rfl) (Nat.le_of_ble_eq_true rfl) ?_
          exact hk _ (by rw [qCo, if_neg hlt]; exact hQ26) ((hr1).trans hR26)
      · try simp only [mM_sI, mM_sM] at c0
        have hj := lp_lt (c := 4) rfl (by decide) h1 c0
        refine r_aload_n (pc' := 30) h dX5_command_29 rfl rfl ?_
        refine gX5_24 (pc' := 33) h dX5_command_30 rfl hj1.l0 hj1.o rfl ?_
        refine r_iload_n (pc' := 34) h dX5_command_33 rfl rfl ?_
        refine r_iload_n (pc' := 35) h dX5_command_34 rfl rfl ?_
        refine r_iadd (pc' := 36) h dX5_command_35 rfl ?_
        refine r_iconst (pc' := 37) (v := 0) h dX5_command_36 rfl (by decide) ?_
        refine r_iast (pc' := 38) h dX5_command_37 rfl hj1.l4 hj1.r4 (ix_C hcm hm6 hj) ?_
        refine wU3 hj1 (fun S27 hQ27 hR27 => ?_)
        refine r_iinc (pc' := 41) (v := 1) h dX5_command_38 rfl (by decide) (by decide) rfl rfl ?_
        refine r_goto (tgt := 24) h dX5_command_41 (by decide) ?_
        exact aw_cast (by simp [nI_1]) (ih (j + 1) (by omega) (by omega) _ hQ27 ((hr1).trans hR27))
  exact loop 5 0 (Nat.zero_le _) (by omega) _ hQ1 hR1
set_option maxHeartbeats 4000000 in
theorem kX5_parse {l : Launch} {G : GX} {N : Nat} {S : Nat → va_E} {K : RK} {Q : MM} (hQ : isM G N S Q) {q : Nat} (h11 : mI Q 11 = nI q) (hq6 : q ≤ 60) (hk : ∀ S1, isM G N S1 (qPa Q) → GR S S1 → K (.inl none) S1) : RetK l G N mX5_parse (4, 89, 0, 0) [.ref (ad G 119)] S K := by
  refine ret_enter (by decide +kernel) (Nat.le_of_ble_eq_true rfl) (fun X hX h hm => ?_)
  subst hX
  replace h : OK X G N cX5_parse RX5 1 (4, 89, 0, 0) := h
  replace hm : OKm X G N K none (4, 89, 0, 0) := hm
  show AW X G 1 N 0 [(0, _)] [] S 0 0
  have hp0 : hP (sMI (sMI (sMI Q 12 0) 13 (-1)) 16 0) 0 q := ⟨rfl, h11, Nat.zero_le _, hq6⟩
  refine r_aload_n (pc' := 1) h dX5_parse_0 rfl rfl ?_
  refine r_iconst (pc' := 2) (v := 0) h dX5_parse_1 rfl (by decide) ?_
  refine pX5_203 (pc' := 5) h dX5_parse_2 rfl hQ.l0 hQ.o (Nat.le_of_ble_eq_true rfl) ?_
  refine wM12 hQ (fun S1 hQ1 hR1 => ?_)
  refine r_aload_n (pc' := 6) h dX5_parse_5 rfl rfl ?_
  refine r_iconst (pc' := 7) (v := -1) h dX5_parse_6 rfl (by decide) ?_
  refine pX5_206 (pc' := 10) h dX5_parse_7 rfl hQ1.l0 hQ1.o (Nat.le_of_ble_eq_true rfl) ?_
  refine wM13 hQ1 (fun S2 hQ2 hR2 => ?_)
  refine r_aload_n (pc' := 11) h dX5_parse_10 rfl rfl ?_
  refine r_iconst (pc' := 12) (v := 0) h dX5_parse_11 rfl (by decide) ?_
  refine pX5_218 (pc' := 15) h dX5_parse_12 rfl hQ2.l0 hQ2.o (Nat.le_of_ble_eq_true rfl) ?_
  refine wM16 hQ2 (fun S3 hQ3 hR3 => ?_)
  refine r_aload_n (pc' := 16) h dX5_parse_15 rfl rfl ?_
  refine r_callV0 (pc' := 19) (M := mX5_command) h hm dX5_parse_16 rfl lX5_230 vX5_command rfl hQ3.l0 hQ3.o (Nat.le_of_ble_eq_true rfl) (rrb rfl) (kX5_command (m := 0) hQ3 hp0 rfl (by decide) (fun S4 hQ4 hR4 => ?_))
  show AW X G _ _ _ _ _ _ _ _
  have loop : ∀ (n : Nat), ∀ (Sj : Nat → va_E) (Q1 : MM) (p m : Nat), isM G N Sj Q1 → GR S Sj → hP Q1 p q → mI Q1 16 = nI m → m ≤ p + 1 → q - p < n → qPl n Q1 = qPl 61 (qCo (sMI (sMI (sMI Q 12 0) 13 (-1)) 16 0)) → AW X G 1 N 19 [(0, .ref (ad G 119))] [] Sj 0 0 := by
    intro n
    induction n with
    | zero => intro Sj Q1 p m _ _ _ _ _ h2; exact absurd h2 (by omega)
    | succ n ih =>
      intro Sj Q1 p m hj1 hr1 hp1 hcm hmp h2 hv
      have hpq := hp1.2.2
      refine r_aload_n (pc' := 20) h dX5_parse_19 rfl rfl ?_
      refine gX5_206 (pc' := 23) h dX5_parse_20 rfl hj1.l0 hj1.o rfl ?_
      refine r_if_ge (tgt := 52) (pc' := 26) h dX5_parse_23 (by decide) rfl (fun c0 => ?_) (fun c0 => ?_)
      · try simp only [mM_sI, mM_sM] at c0
        have hn0 : 0 ≤ mI Q1 13 := c0
        refine r_aload_n (pc' := 53) h dX5_parse_52 rfl rfl ?_
        refine gX5_206 (pc' := 56) h dX5_parse_53 rfl hj1.l0 hj1.o rfl ?_
        refine r_if_ge (tgt := 78) (pc' := 59) h dX5_parse_56 (by decide) rfl (fun c1 => ?_) (fun c1 => ?_)
        · try simp only [mM_sI, mM_sM] at c1
          have h56 : 0 ≤ mI Q1 13 := c1
          refine r_return h hm dX5_parse_78 (Nat.le_of_ble_eq_true rfl) (Nat.le_of_ble_eq_true rfl) ?_
          have hE : Q1 = qPl 61 (qCo (sMI (sMI (sMI Q 12 0) 13 (-1)) 16 0)) := by rw [← hv, qPl, if_pos hn0]
          refine hk _ ?_ hr1
          rw [qPa, ← hE, if_pos h56]
          exact hj1
        · try simp only [mM_sI, mM_sM] at c1
          have h56 : ¬ 0 ≤ mI Q1 13 := c1
          refine r_aload_n (pc' := 60) h dX5_parse_59 rfl rfl ?_
          refine gX5_203 (pc' := 63) h dX5_parse_60 rfl hj1.l0 hj1.o rfl ?_
          refine r_aload_n (pc' := 64) h dX5_parse_63 rfl rfl ?_
          refine gX5_200 (pc' := 67) h dX5_parse_64 rfl hj1.l0 hj1.o rfl ?_
          refine r_icmp_ge (tgt := 78) (pc' := 70) h dX5_parse_67 (by decide) rfl (fun c2 => ?_) (fun c2 => ?_)
          · try simp only [mM_sI, mM_sM] at c2
            have h67 : mI Q1 11 ≤ mI Q1 12 := c2
            refine r_return h hm dX5_parse_78 (Nat.le_of_ble_eq_true rfl) (Nat.le_of_ble_eq_true rfl) ?_
            have hE : Q1 = qPl 61 (qCo (sMI (sMI (sMI Q 12 0) 13 (-1)) 16 0)) := by rw [← hv, qPl, if_pos hn0]
            refine hk _ ?_ hr1
            rw [qPa, ← hE, if_neg h56, if_pos h67]
            exact hj1
          · try simp only [mM_sI, mM_sM] at c2
            have h67 : ¬ mI Q1 11 ≤ mI Q1 12 := c2
            refine r_aload_n (pc' := 71) h dX5_parse_70 rfl rfl ?_
            refine r_aload_n (pc' := 72) h dX5_parse_71 rfl rfl ?_
            refine gX5_203 (pc' := 75) h dX5_parse_72 rfl hj1.l0 hj1.o rfl ?_
            refine pX5_206 (pc' := 78) h dX5_parse_75 rfl hj1.l0 hj1.o (Nat.le_of_ble_eq_true rfl) ?_
            refine wM13 hj1 (fun S5 hQ5 hR5 => ?_)
            refine r_return h hm dX5_parse_78 (Nat.le_of_ble_eq_true rfl) (Nat.le_of_ble_eq_true rfl) ?_
            have hE : Q1 = qPl 61 (qCo (sMI (sMI (sMI Q 12 0) 13 (-1)) 16 0)) := by rw [← hv, qPl, if_pos hn0]
            refine hk _ ?_ ((hr1).trans hR5)
            rw [qPa, ← hE, if_neg h56, if_neg h67]
            exact hQ5
      · try simp only [mM_sI, mM_sM] at c0
        have hn0 : ¬ 0 ≤ mI Q1 13 := c0
        refine r_aload_n (pc' := 27) h dX5_parse_26 rfl rfl ?_
        refine r_callV0 (pc' := 30) (M := mX5_sign) h hm dX5_parse_27 rfl lX5_209 vX5_sign rfl hj1.l0 hj1.o (Nat.le_of_ble_eq_true rfl) (rrb rfl) (kX5_sign hj1 hp1 ?_)
        show AW X G _ _ _ _ _ _ _ _
        refine r_bipush (pc' := 32) (v := 59) h dX5_parse_30 rfl (by decide) ?_
        refine r_icmp_ne (tgt := 52) (pc' := 35) h dX5_parse_32 (by decide) rfl (fun c3 => ?_) (fun c3 => ?_)
        · try simp only [mM_sI, mM_sM] at c3
          have hsg := c3
          refine r_aload_n (pc' := 53) h dX5_parse_52 rfl rfl ?_
          refine gX5_206 (pc' := 56) h dX5_parse_53 rfl hj1.l0 hj1.o rfl ?_
          refine r_if_ge (tgt := 78) (pc' := 59) h dX5_parse_56 (by decide) rfl (fun c4 => ?_) (fun c4 => ?_)
          · try simp only [mM_sI, mM_sM] at c4
            have h56 : 0 ≤ mI Q1 13 := c4
            refine r_return h hm dX5_parse_78 (Nat.le_of_ble_eq_true rfl) (Nat.le_of_ble_eq_true rfl) ?_
            have hE : Q1 = qPl 61 (qCo (sMI (sMI (sMI Q 12 0) 13 (-1)) 16 0)) := by rw [← hv, qPl, if_neg hn0, if_neg hsg]
            refine hk _ ?_ hr1
            rw [qPa, ← hE, if_pos h56]
            exact hj1
          · try simp only [mM_sI, mM_sM] at c4
            have h56 : ¬ 0 ≤ mI Q1 13 := c4
            refine r_aload_n (pc' := 60) h dX5_parse_59 rfl rfl ?_
            refine gX5_203 (pc' := 63) h dX5_parse_60 rfl hj1.l0 hj1.o rfl ?_
            refine r_aload_n (pc' := 64) h dX5_parse_63 rfl rfl ?_
            refine gX5_200 (pc' := 67) h dX5_parse_64 rfl hj1.l0 hj1.o rfl ?_
            refine r_icmp_ge (tgt := 78) (pc' := 70) h dX5_parse_67 (by decide) rfl (fun c5 => ?_) (fun c5 => ?_)
            · try simp only [mM_sI, mM_sM] at c5
              have h67 : mI Q1 11 ≤ mI Q1 12 := c5
              refine r_return h hm dX5_parse_78 (Nat.le_of_ble_eq_true rfl) (Nat.le_of_ble_eq_true rfl) ?_
              have hE : Q1 = qPl 61 (qCo (sMI (sMI (sMI Q 12 0) 13 (-1)) 16 0)) := by rw [← hv, qPl, if_neg hn0, if_neg hsg]
              refine hk _ ?_ hr1
              rw [qPa, ← hE, if_neg h56, if_pos h67]
              exact hj1
            · try simp only [mM_sI, mM_sM] at c5
              have h67 : ¬ mI Q1 11 ≤ mI Q1 12 := c5
              refine r_aload_n (pc' := 71) h dX5_parse_70 rfl rfl ?_
              refine r_aload_n (pc' := 72) h dX5_parse_71 rfl rfl ?_
              refine gX5_203 (pc' := 75) h dX5_parse_72 rfl hj1.l0 hj1.o rfl ?_
              refine pX5_206 (pc' := 78) h dX5_parse_75 rfl hj1.l0 hj1.o (Nat.le_of_ble_eq_true rfl) ?_
              refine wM13 hj1 (fun S6 hQ6 hR6 => ?_)
              refine r_return h hm dX5_parse_78 (Nat.le_of_ble_eq_true rfl) (Nat.le_of_ble_eq_true rfl) ?_
              have hE : Q1 = qPl 61 (qCo (sMI (sMI (sMI Q 12 0) 13 (-1)) 16 0)) := by rw [← hv, qPl, if_neg hn0, if_neg hsg]
              refine hk _ ?_ ((hr1).trans hR6)
              rw [qPa, ← hE, if_neg h56, if_neg h67]
              exact hQ6
        · try simp only [mM_sI, mM_sM] at c3
          have hsg : qSg Q1 = 59 := c3
          have hl := qSg_lt hp1 (by rw [hsg]; decide)
          refine r_aload_n (pc' := 36) h dX5_parse_35 rfl rfl ?_
          refine r_dup (pc' := 37) h dX5_parse_36 rfl rfl ?_
          refine gX5_203 (pc' := 40) h dX5_parse_37 rfl hj1.l0 hj1.o rfl ?_
          refine r_iconst (pc' := 41) (v := 1) h dX5_parse_40 rfl (by decide) ?_
          refine r_iadd (pc' := 42) h dX5_parse_41 rfl ?_
          refine pX5_203 (pc' := 45) h dX5_parse_42 rfl hj1.l0 hj1.o (Nat.le_of_ble_eq_true rfl) ?_
          refine wM12 hj1 (fun S7 hQ7 hR7 => ?_)
          refine r_aload_n (pc' := 46) h dX5_parse_45 rfl rfl ?_
          refine r_callV0 (pc' := 49) (M := mX5_command) h hm dX5_parse_46 rfl lX5_230 vX5_command rfl hQ7.l0 hQ7.o (Nat.le_of_ble_eq_true rfl) (rrb rfl) (kX5_command hQ7 (hP_Ad hp1 hl) (m := m) hcm (by omega) (fun S8 hQ8 hR8 => ?_))
          show AW X G _ _ _ _ _ _ _ _
          refine r_goto (tgt := 19) h dX5_parse_49 (by decide) ?_
          obtain ⟨p2, hpp2, hp2⟩ := hP_Co (hP_Ad hp1 hl)
          exact ih _ _ p2 (m + 1) hQ8 (((hr1).trans hR7).trans hR8) hp2 (by rw [qCo_16, ← nI_1, ← hcm]; rfl) (by omega) (by omega) (by rw [← hv, qPl, if_neg hn0, if_pos hsg]; rfl)
  obtain ⟨p1, hpp1, hp1⟩ := hP_Co hp0
  exact loop 61 _ _ p1 1 hQ4 ((((hR1).trans hR2).trans hR3).trans hR4) hp1 (by rw [qCo_16]; rfl) (by omega) (by have := hp1.2.2; omega) rfl
set_option maxHeartbeats 800000 in
theorem kX5_does {l : Launch} {G : GX} {N : Nat} {S : Nat → va_E} {K : RK} {Q : MM} (hQ : isM G N S Q) (hw : wM (mM Q)) {t : Nat} (h4 : mM Q 4 = nI t) (ht2 : t < 2 ^ 30) {x : Int32} (hx : vp_in x 241) (hend : cA Q x = 100 → qEx (mM (qDr 12 (sMI Q 4 0))) ≤ 0) (hk : ∀ S1, isM G N S1 (qDo Q x).1 → GR S S1 → K (.inl (some (.int (qDo Q x).2))) S1) : RetK l G N mX5_does (9, 208, 0, 0) [.ref (ad G 119), .int x] S K := by
  refine ret_enter (by decide +kernel) (Nat.le_of_ble_eq_true rfl) (fun X hX h hm => ?_)
  subst hX
  replace h : OK X G N cX5_does RX5 5 (9, 208, 0, 0) := h
  replace hm : OKm X G N K (some .int) (9, 208, 0, 0) := hm
  show AW X G 5 N 0 [(0, _), (1, _)] [] S 0 0
  refine r_aload_n (pc' := 1) h dX5_does_0 rfl rfl ?_
  refine gX5_24 (pc' := 4) h dX5_does_1 rfl hQ.l0 hQ.o rfl ?_
  refine r_iload_n (pc' := 5) h dX5_does_4 rfl rfl ?_
  refine r_iconst (pc' := 6) (v := 1) h dX5_does_5 rfl (by decide) ?_
  refine r_iadd (pc' := 7) h dX5_does_6 rfl ?_
  refine r_iald (pc' := 8) h dX5_does_7 rfl hQ.l4 hQ.r4 (ix_D (k := 1) hx (by decide)) ?_
  refine r_istoren (j := 2) (pc' := 9) h rfl dX5_does_8 rfl (by decide) rfl ?_
  refine r_aload_n (pc' := 10) h dX5_does_9 rfl rfl ?_
  refine gX5_24 (pc' := 13) h dX5_does_10 rfl hQ.l0 hQ.o rfl ?_
  refine r_iload_n (pc' := 14) h dX5_does_13 rfl rfl ?_
  refine r_iconst (pc' := 15) (v := 2) h dX5_does_14 rfl (by decide) ?_
  refine r_iadd (pc' := 16) h dX5_does_15 rfl ?_
  refine r_iald (pc' := 17) h dX5_does_16 rfl hQ.l4 hQ.r4 (ix_D (k := 2) hx (by decide)) ?_
  refine r_istoren (j := 3) (pc' := 18) h rfl dX5_does_17 rfl (by decide) rfl ?_
  refine r_aload_n (pc' := 19) h dX5_does_18 rfl rfl ?_
  refine gX5_24 (pc' := 22) h dX5_does_19 rfl hQ.l0 hQ.o rfl ?_
  refine r_iload_n (pc' := 23) h dX5_does_22 rfl rfl ?_
  refine r_iconst (pc' := 24) (v := 3) h dX5_does_23 rfl (by decide) ?_
  refine r_iadd (pc' := 25) h dX5_does_24 rfl ?_
  refine r_iald (pc' := 26) h dX5_does_25 rfl hQ.l4 hQ.r4 (ix_D (k := 3) hx (by decide)) ?_
  refine r_istore (pc' := 28) h dX5_does_26 rfl (by decide) rfl ?_
  refine r_aload_n (pc' := 29) h dX5_does_28 rfl rfl ?_
  refine gX5_24 (pc' := 32) h dX5_does_29 rfl hQ.l0 hQ.o rfl ?_
  refine r_iload_n (pc' := 33) h dX5_does_32 rfl rfl ?_
  refine r_iald (pc' := 34) h dX5_does_33 rfl hQ.l4 hQ.r4 (in_mono hx (by decide) (by decide)) ?_
  show AW X G _ _ _ _ (.int (cA Q x) :: _) _ _ _
  refine r_tsw h dX5_does_34 [(97, 106), (98, 170), (99, 134), (100, 160), (102, 115), (103, 154), (113, 179), (114, 128), (115, 121), (117, 141), (118, 165), (119, 147)] (by decide) (by decide) (by decide) (by decide) ?_
  refine ⟨fun e0 => ?_, fun e0 => ?_⟩
  · have e0 := Int32.toInt_inj.mp (e0.trans (by decide : (97 : Int) = Int32.toInt 97))
    show AW X G _ _ 140 _ _ _ _ _
    refine r_aload_n (pc' := 141) h dX5_does_140 rfl rfl ?_
    refine r_iload_n (pc' := 142) h dX5_does_141 rfl rfl ?_
    refine r_iload_n (pc' := 143) h dX5_does_142 rfl rfl ?_
    refine r_iload (pc' := 145) h dX5_does_143 rfl rfl ?_
    refine r_callV3 (pc' := 148) (M := mX5_adds) h hm dX5_does_145 rfl lX5_95 vX5_adds rfl hQ.l0 hQ.o (Nat.le_of_ble_eq_true rfl) (rrb rfl) (kX5_adds hQ hw (fun S1 hQ1 hR1 => ?_))
    show AW X G _ _ _ _ _ _ _ _
    refine r_ireturn h hm dX5_does_148 (Nat.le_of_ble_eq_true rfl) (Nat.le_of_ble_eq_true rfl) ?_
    refine kM hk hQ1 hR1 ?_
    rw [qDo]; first | (rw [if_pos e0]; done) | (rw [if_pos e0]; rfl) | (rw [if_neg e0]; done) | (rw [if_neg e0]; rfl)
  · have e0 : ¬ _ = (97 : Int32) := fun z => e0 ((congrArg Int32.toInt z).trans (by decide : Int32.toInt 97 = (97 : Int)))
    refine ⟨fun e1 => ?_, fun e1 => ?_⟩
    · have e1 := Int32.toInt_inj.mp (e1.trans (by decide : (98 : Int) = Int32.toInt 98))
      show AW X G _ _ 204 _ _ _ _ _
      refine r_aload_n (pc' := 205) h dX5_does_204 rfl rfl ?_
      refine r_iload_n (pc' := 206) h dX5_does_205 rfl rfl ?_
      refine r_iload_n (pc' := 207) h dX5_does_206 rfl rfl ?_
      refine r_iload (pc' := 209) h dX5_does_207 rfl rfl ?_
      refine r_callV3 (pc' := 212) (M := mX5_places) h hm dX5_does_209 rfl lX5_156 vX5_places rfl hQ.l0 hQ.o (Nat.le_of_ble_eq_true rfl) (rrb rfl) (kX5_places hQ hw (fun S2 hQ2 hR2 => ?_))
      show AW X G _ _ _ _ _ _ _ _
      refine r_ireturn h hm dX5_does_212 (Nat.le_of_ble_eq_true rfl) (Nat.le_of_ble_eq_true rfl) ?_
      refine kM hk hQ2 hR2 ?_
      rw [qDo]; first | (rw [if_neg e0, if_pos e1]; done) | (rw [if_neg e0, if_pos e1]; rfl) | (rw [if_neg e0, if_neg e1]; done) | (rw [if_neg e0, if_neg e1]; rfl)
    · have e1 : ¬ _ = (98 : Int32) := fun z => e1 ((congrArg Int32.toInt z).trans (by decide : Int32.toInt 98 = (98 : Int)))
      refine ⟨fun e2 => ?_, fun e2 => ?_⟩
      · have e2 := Int32.toInt_inj.mp (e2.trans (by decide : (99 : Int) = Int32.toInt 99))
        show AW X G _ _ 168 _ _ _ _ _
        refine r_aload_n (pc' := 169) h dX5_does_168 rfl rfl ?_
        refine r_iload_n (pc' := 170) h dX5_does_169 rfl rfl ?_
        refine r_iload_n (pc' := 171) h dX5_does_170 rfl rfl ?_
        refine r_callV2 (pc' := 174) (M := mX5_curtails) h hm dX5_does_171 rfl lX5_123 vX5_curtails rfl hQ.l0 hQ.o (Nat.le_of_ble_eq_true rfl) (rrb rfl) (kX5_curtails hQ hw (fun S3 hQ3 hR3 => ?_))
        show AW X G _ _ _ _ _ _ _ _
        refine r_ireturn h hm dX5_does_174 (Nat.le_of_ble_eq_true rfl) (Nat.le_of_ble_eq_true rfl) ?_
        refine kM hk hQ3 hR3 ?_
        rw [qDo]; first | (rw [if_neg e0, if_neg e1, if_pos e2]; done) | (rw [if_neg e0, if_neg e1, if_pos e2]; rfl) | (rw [if_neg e0, if_neg e1, if_neg e2]; done) | (rw [if_neg e0, if_neg e1, if_neg e2]; rfl)
      · have e2 : ¬ _ = (99 : Int32) := fun z => e2 ((congrArg Int32.toInt z).trans (by decide : Int32.toInt 99 = (99 : Int)))
        refine ⟨fun e3 => ?_, fun e3 => ?_⟩
        · have e3 := Int32.toInt_inj.mp (e3.trans (by decide : (100 : Int) = Int32.toInt 100))
          show AW X G _ _ 194 _ _ _ _ _
          refine r_aload_n (pc' := 195) h dX5_does_194 rfl rfl ?_
          refine r_callV0 (pc' := 198) (M := mX5_dispatches) h hm dX5_does_195 rfl lX5_141 vX5_dispatches rfl hQ.l0 hQ.o (Nat.le_of_ble_eq_true rfl) (rrb rfl) (kX5_dispatches (d := 12) hQ hw (hend e3) (fun S4 hQ4 hR4 => ?_))
          show AW X G _ _ _ _ _ _ _ _
          refine r_ireturn h hm dX5_does_198 (Nat.le_of_ble_eq_true rfl) (Nat.le_of_ble_eq_true rfl) ?_
          refine kM hk hQ4 hR4 ?_
          rw [qDo]; first | (rw [if_neg e0, if_neg e1, if_neg e2, if_pos e3]; done) | (rw [if_neg e0, if_neg e1, if_neg e2, if_pos e3]; rfl) | (rw [if_neg e0, if_neg e1, if_neg e2, if_neg e3]; done) | (rw [if_neg e0, if_neg e1, if_neg e2, if_neg e3]; rfl)
        · have e3 : ¬ _ = (100 : Int32) := fun z => e3 ((congrArg Int32.toInt z).trans (by decide : Int32.toInt 100 = (100 : Int)))
          refine ⟨fun e4 => ?_, fun e4 => ?_⟩
          · have e4 := Int32.toInt_inj.mp (e4.trans (by decide : (102 : Int) = Int32.toInt 102))
            show AW X G _ _ 149 _ _ _ _ _
            refine r_aload_n (pc' := 150) h dX5_does_149 rfl rfl ?_
            refine r_iload_n (pc' := 151) h dX5_does_150 rfl rfl ?_
            refine r_callV1 (pc' := 154) (M := mX5_fails) h hm dX5_does_151 rfl lX5_110 vX5_fails rfl hQ.l0 hQ.o (Nat.le_of_ble_eq_true rfl) (rrb rfl) (kX5_fails hQ hw (fun S5 hQ5 hR5 => ?_))
            show AW X G _ _ _ _ _ _ _ _
            refine r_ireturn h hm dX5_does_154 (Nat.le_of_ble_eq_true rfl) (Nat.le_of_ble_eq_true rfl) ?_
            refine kM hk hQ5 hR5 ?_
            rw [qDo]; first | (rw [if_neg e0, if_neg e1, if_neg e2, if_neg e3, if_pos e4]; done) | (rw [if_neg e0, if_neg e1, if_neg e2, if_neg e3, if_pos e4]; rfl) | (rw [if_neg e0, if_neg e1, if_neg e2, if_neg e3, if_neg e4]; done) | (rw [if_neg e0, if_neg e1, if_neg e2, if_neg e3, if_neg e4]; rfl)
          · have e4 : ¬ _ = (102 : Int32) := fun z => e4 ((congrArg Int32.toInt z).trans (by decide : Int32.toInt 102 = (102 : Int)))
            refine ⟨fun e5 => ?_, fun e5 => ?_⟩
            · have e5 := Int32.toInt_inj.mp (e5.trans (by decide : (103 : Int) = Int32.toInt 103))
              show AW X G _ _ 188 _ _ _ _ _
              refine r_aload_n (pc' := 189) h dX5_does_188 rfl rfl ?_
              refine r_iload_n (pc' := 190) h dX5_does_189 rfl rfl ?_
              refine r_callV1 (pc' := 193) (M := mX5_limits) h hm dX5_does_190 rfl lX5_138 vX5_limits rfl hQ.l0 hQ.o (Nat.le_of_ble_eq_true rfl) (rrb rfl) (kX5_limits hQ hw (fun S6 hQ6 hR6 => ?_))
              show AW X G _ _ _ _ _ _ _ _
              refine r_ireturn h hm dX5_does_193 (Nat.le_of_ble_eq_true rfl) (Nat.le_of_ble_eq_true rfl) ?_
              refine kM hk hQ6 hR6 ?_
              rw [qDo]; first | (rw [if_neg e0, if_neg e1, if_neg e2, if_neg e3, if_neg e4, if_pos e5]; done) | (rw [if_neg e0, if_neg e1, if_neg e2, if_neg e3, if_neg e4, if_pos e5]; rfl) | (rw [if_neg e0, if_neg e1, if_neg e2, if_neg e3, if_neg e4, if_neg e5]; done) | (rw [if_neg e0, if_neg e1, if_neg e2, if_neg e3, if_neg e4, if_neg e5]; rfl)
            · have e5 : ¬ _ = (103 : Int32) := fun z => e5 ((congrArg Int32.toInt z).trans (by decide : Int32.toInt 103 = (103 : Int)))
              refine ⟨fun e6 => ?_, fun e6 => ?_⟩
              · have e6 := Int32.toInt_inj.mp (e6.trans (by decide : (113 : Int) = Int32.toInt 113))
                show AW X G _ _ 213 _ _ _ _ _
                refine r_aload_n (pc' := 214) h dX5_does_213 rfl rfl ?_
                refine r_iload_n (pc' := 215) h dX5_does_214 rfl rfl ?_
                refine r_callV1 (pc' := 218) (M := mX5_withdraws) h hm dX5_does_215 rfl lX5_162 vX5_withdraws rfl hQ.l0 hQ.o (Nat.le_of_ble_eq_true rfl) (rrb rfl) (kX5_withdraws hQ hw (fun S7 hQ7 hR7 => ?_))
                show AW X G _ _ _ _ _ _ _ _
                refine r_ireturn h hm dX5_does_218 (Nat.le_of_ble_eq_true rfl) (Nat.le_of_ble_eq_true rfl) ?_
                refine kM hk hQ7 hR7 ?_
                rw [qDo]; first | (rw [if_neg e0, if_neg e1, if_neg e2, if_neg e3, if_neg e4, if_neg e5, if_pos e6]; done) | (rw [if_neg e0, if_neg e1, if_neg e2, if_neg e3, if_neg e4, if_neg e5, if_pos e6]; rfl) | (rw [if_neg e0, if_neg e1, if_neg e2, if_neg e3, if_neg e4, if_neg e5, if_neg e6]; done) | (rw [if_neg e0, if_neg e1, if_neg e2, if_neg e3, if_neg e4, if_neg e5, if_neg e6]; rfl)
              · have e6 : ¬ _ = (113 : Int32) := fun z => e6 ((congrArg Int32.toInt z).trans (by decide : Int32.toInt 113 = (113 : Int)))
                refine ⟨fun e7 => ?_, fun e7 => ?_⟩
                · have e7 := Int32.toInt_inj.mp (e7.trans (by decide : (114 : Int) = Int32.toInt 114))
                  show AW X G _ _ 162 _ _ _ _ _
                  refine r_aload_n (pc' := 163) h dX5_does_162 rfl rfl ?_
                  refine r_iload_n (pc' := 164) h dX5_does_163 rfl rfl ?_
                  refine r_callV1 (pc' := 167) (M := mX5_recalls) h hm dX5_does_164 rfl lX5_120 vX5_recalls rfl hQ.l0 hQ.o (Nat.le_of_ble_eq_true rfl) (rrb rfl) (kX5_recalls hQ hw (fun S8 hQ8 hR8 => ?_))
                  show AW X G _ _ _ _ _ _ _ _
                  refine r_ireturn h hm dX5_does_167 (Nat.le_of_ble_eq_true rfl) (Nat.le_of_ble_eq_true rfl) ?_
                  refine kM hk hQ8 hR8 ?_
                  rw [qDo]; first | (rw [if_neg e0, if_neg e1, if_neg e2, if_neg e3, if_neg e4, if_neg e5, if_neg e6, if_pos e7]; done) | (rw [if_neg e0, if_neg e1, if_neg e2, if_neg e3, if_neg e4, if_neg e5, if_neg e6, if_pos e7]; rfl) | (rw [if_neg e0, if_neg e1, if_neg e2, if_neg e3, if_neg e4, if_neg e5, if_neg e6, if_neg e7]; done) | (rw [if_neg e0, if_neg e1, if_neg e2, if_neg e3, if_neg e4, if_neg e5, if_neg e6, if_neg e7]; rfl)
                · have e7 : ¬ _ = (114 : Int32) := fun z => e7 ((congrArg Int32.toInt z).trans (by decide : Int32.toInt 114 = (114 : Int)))
                  refine ⟨fun e8 => ?_, fun e8 => ?_⟩
                  · have e8 := Int32.toInt_inj.mp (e8.trans (by decide : (115 : Int) = Int32.toInt 115))
                    show AW X G _ _ 155 _ _ _ _ _
                    refine r_aload_n (pc' := 156) h dX5_does_155 rfl rfl ?_
                    refine r_iload_n (pc' := 157) h dX5_does_156 rfl rfl ?_
                    refine r_iload_n (pc' := 158) h dX5_does_157 rfl rfl ?_
                    refine r_callV2 (pc' := 161) (M := mX5_sends) h hm dX5_does_158 rfl lX5_117 vX5_sends rfl hQ.l0 hQ.o (Nat.le_of_ble_eq_true rfl) (rrb rfl) (kX5_sends hQ hw (fun S9 hQ9 hR9 => ?_))
                    show AW X G _ _ _ _ _ _ _ _
                    refine r_ireturn h hm dX5_does_161 (Nat.le_of_ble_eq_true rfl) (Nat.le_of_ble_eq_true rfl) ?_
                    refine kM hk hQ9 hR9 ?_
                    rw [qDo]; first | (rw [if_neg e0, if_neg e1, if_neg e2, if_neg e3, if_neg e4, if_neg e5, if_neg e6, if_neg e7, if_pos e8]; done) | (rw [if_neg e0, if_neg e1, if_neg e2, if_neg e3, if_neg e4, if_neg e5, if_neg e6, if_neg e7, if_pos e8]; rfl) | (rw [if_neg e0, if_neg e1, if_neg e2, if_neg e3, if_neg e4, if_neg e5, if_neg e6, if_neg e7, if_neg e8]; done) | (rw [if_neg e0, if_neg e1, if_neg e2, if_neg e3, if_neg e4, if_neg e5, if_neg e6, if_neg e7, if_neg e8]; rfl)
                  · have e8 : ¬ _ = (115 : Int32) := fun z => e8 ((congrArg Int32.toInt z).trans (by decide : Int32.toInt 115 = (115 : Int)))
                    refine ⟨fun e9 => ?_, fun e9 => ?_⟩
                    · have e9 := Int32.toInt_inj.mp (e9.trans (by decide : (117 : Int) = Int32.toInt 117))
                      show AW X G _ _ 175 _ _ _ _ _
                      refine r_aload_n (pc' := 176) h dX5_does_175 rfl rfl ?_
                      refine r_iload_n (pc' := 177) h dX5_does_176 rfl rfl ?_
                      refine r_callV1 (pc' := 180) (M := mX5_releases) h hm dX5_does_177 rfl lX5_126 vX5_releases rfl hQ.l0 hQ.o (Nat.le_of_ble_eq_true rfl) (rrb rfl) (kX5_releases hQ hw (fun S10 hQ10 hR10 => ?_))
                      show AW X G _ _ _ _ _ _ _ _
                      refine r_ireturn h hm dX5_does_180 (Nat.le_of_ble_eq_true rfl) (Nat.le_of_ble_eq_true rfl) ?_
                      refine kM hk hQ10 hR10 ?_
                      rw [qDo]; first | (rw [if_neg e0, if_neg e1, if_neg e2, if_neg e3, if_neg e4, if_neg e5, if_neg e6, if_neg e7, if_neg e8, if_pos e9]; done) | (rw [if_neg e0, if_neg e1, if_neg e2, if_neg e3, if_neg e4, if_neg e5, if_neg e6, if_neg e7, if_neg e8, if_pos e9]; rfl) | (rw [if_neg e0, if_neg e1, if_neg e2, if_neg e3, if_neg e4, if_neg e5, if_neg e6, if_neg e7, if_neg e8, if_neg e9]; done) | (rw [if_neg e0, if_neg e1, if_neg e2, if_neg e3, if_neg e4, if_neg e5, if_neg e6, if_neg e7, if_neg e8, if_neg e9]; rfl)
                    · have e9 : ¬ _ = (117 : Int32) := fun z => e9 ((congrArg Int32.toInt z).trans (by decide : Int32.toInt 117 = (117 : Int)))
                      refine ⟨fun e10 => ?_, fun e10 => ?_⟩
                      · have e10 := Int32.toInt_inj.mp (e10.trans (by decide : (118 : Int) = Int32.toInt 118))
                        show AW X G _ _ 199 _ _ _ _ _
                        refine r_aload_n (pc' := 200) h dX5_does_199 rfl rfl ?_
                        refine r_callV0 (pc' := 203) (M := mX5_releasesAll) h hm dX5_does_200 rfl lX5_144 vX5_releasesAll rfl hQ.l0 hQ.o (Nat.le_of_ble_eq_true rfl) (rrb rfl) (kX5_releasesAll hQ hw (fun S11 hQ11 hR11 => ?_))
                        show AW X G _ _ _ _ _ _ _ _
                        refine r_ireturn h hm dX5_does_203 (Nat.le_of_ble_eq_true rfl) (Nat.le_of_ble_eq_true rfl) ?_
                        refine kM hk hQ11 hR11 ?_
                        rw [qDo]; first | (rw [if_neg e0, if_neg e1, if_neg e2, if_neg e3, if_neg e4, if_neg e5, if_neg e6, if_neg e7, if_neg e8, if_neg e9, if_pos e10]; done) | (rw [if_neg e0, if_neg e1, if_neg e2, if_neg e3, if_neg e4, if_neg e5, if_neg e6, if_neg e7, if_neg e8, if_neg e9, if_pos e10]; rfl) | (rw [if_neg e0, if_neg e1, if_neg e2, if_neg e3, if_neg e4, if_neg e5, if_neg e6, if_neg e7, if_neg e8, if_neg e9, if_neg e10]; done) | (rw [if_neg e0, if_neg e1, if_neg e2, if_neg e3, if_neg e4, if_neg e5, if_neg e6, if_neg e7, if_neg e8, if_neg e9, if_neg e10]; rfl)
                      · have e10 : ¬ _ = (118 : Int32) := fun z => e10 ((congrArg Int32.toInt z).trans (by decide : Int32.toInt 118 = (118 : Int)))
                        refine ⟨fun e11 => ?_, fun e11 => ?_⟩
                        · have e11 := Int32.toInt_inj.mp (e11.trans (by decide : (119 : Int) = Int32.toInt 119))
                          show AW X G _ _ 181 _ _ _ _ _
                          refine r_aload_n (pc' := 182) h dX5_does_181 rfl rfl ?_
                          refine r_iload_n (pc' := 183) h dX5_does_182 rfl rfl ?_
                          refine r_iload_n (pc' := 184) h dX5_does_183 rfl rfl ?_
                          refine r_callV2 (pc' := 187) (M := mX5_blows) h hm dX5_does_184 rfl lX5_135 vX5_blows rfl hQ.l0 hQ.o (Nat.le_of_ble_eq_true rfl) (rrb rfl) (kX5_blows hQ hw (fun S12 hQ12 hR12 => ?_))
                          show AW X G _ _ _ _ _ _ _ _
                          refine r_ireturn h hm dX5_does_187 (Nat.le_of_ble_eq_true rfl) (Nat.le_of_ble_eq_true rfl) ?_
                          refine kM hk hQ12 hR12 ?_
                          rw [qDo]; first | (rw [if_neg e0, if_neg e1, if_neg e2, if_neg e3, if_neg e4, if_neg e5, if_neg e6, if_neg e7, if_neg e8, if_neg e9, if_neg e10, if_pos e11]; done) | (rw [if_neg e0, if_neg e1, if_neg e2, if_neg e3, if_neg e4, if_neg e5, if_neg e6, if_neg e7, if_neg e8, if_neg e9, if_neg e10, if_pos e11]; rfl) | (rw [if_neg e0, if_neg e1, if_neg e2, if_neg e3, if_neg e4, if_neg e5, if_neg e6, if_neg e7, if_neg e8, if_neg e9, if_neg e10, if_neg e11]; done) | (rw [if_neg e0, if_neg e1, if_neg e2, if_neg e3, if_neg e4, if_neg e5, if_neg e6, if_neg e7, if_neg e8, if_neg e9, if_neg e10, if_neg e11]; rfl)
                        · have e11 : ¬ _ = (119 : Int32) := fun z => e11 ((congrArg Int32.toInt z).trans (by decide : Int32.toInt 119 = (119 : Int)))
                          show AW X G _ _ 219 _ _ _ _ _
                          refine r_aload_n (pc' := 220) h dX5_does_219 rfl rfl ?_
                          refine r_iload_n (pc' := 221) h dX5_does_220 rfl rfl ?_
                          refine r_callV1 (pc' := 224) (M := mX5_passesHours) h hm dX5_does_221 rfl lX5_168 vX5_passesHours rfl hQ.l0 hQ.o (Nat.le_of_ble_eq_true rfl) (rrb rfl) (kX5_passesHours hQ hw h4 ht2 (fun S13 hQ13 hR13 => ?_))
                          show AW X G _ _ _ _ _ _ _ _
                          refine r_ireturn h hm dX5_does_224 (Nat.le_of_ble_eq_true rfl) (Nat.le_of_ble_eq_true rfl) ?_
                          refine kM hk hQ13 hR13 ?_
                          rw [qDo]; first | (rw [if_neg e0, if_neg e1, if_neg e2, if_neg e3, if_neg e4, if_neg e5, if_neg e6, if_neg e7, if_neg e8, if_neg e9, if_neg e10, if_pos e11]; done) | (rw [if_neg e0, if_neg e1, if_neg e2, if_neg e3, if_neg e4, if_neg e5, if_neg e6, if_neg e7, if_neg e8, if_neg e9, if_neg e10, if_pos e11]; rfl) | (rw [if_neg e0, if_neg e1, if_neg e2, if_neg e3, if_neg e4, if_neg e5, if_neg e6, if_neg e7, if_neg e8, if_neg e9, if_neg e10, if_neg e11]; done) | (rw [if_neg e0, if_neg e1, if_neg e2, if_neg e3, if_neg e4, if_neg e5, if_neg e6, if_neg e7, if_neg e8, if_neg e9, if_neg e10, if_neg e11]; rfl)
theorem ix_J {j m : Nat} (hj : j < m) (hm : m ≤ 61) : vp_in (4 * nI j) 241 := by
  rw [show (4 : Int32) = nI 4 from rfl, pk_mul]
  exact nJ_in (by omega) (by decide)
set_option maxHeartbeats 4000000 in
theorem kX5_execute {l : Launch} {G : GX} {N : Nat} {S : Nat → va_E} {K : RK} {Q : MM} (hQ : isM G N S Q) {P : MM} (hPa : qPa Q = P) (hc : hC Q) {q : Nat} (h11 : mI Q 11 = nI q) (hq6 : q ≤ 60) (hJ : ¬ 0 ≤ mI P 13 → ∀ j, j < qXm P → (qEl j (qXr P)).2 = 0 → wM (mM (qEl j (qXr P)).1) ∧ (∃ t, mM (qEl j (qXr P)).1 4 = nI t ∧ t < 2 ^ 30) ∧ (cA (qEl j (qXr P)).1 (4 * nI j) = 100 → qEx (mM (qDr 12 (sMI (qEl j (qXr P)).1 4 0))) ≤ 0)) (hk : ∀ S1, isM G N S1 (qXe P).1 → GR S S1 → K (.inl (some (.int (qXe P).2))) S1) : RetK l G N mX5_execute (10, 232, 0, 0) [.ref (ad G 119)] S K := by
  refine ret_enter (by decide +kernel) (Nat.le_of_ble_eq_true rfl) (fun X hX h hm => ?_)
  subst hX
  replace h : OK X G N cX5_execute RX5 3 (10, 232, 0, 0) := h
  replace hm : OKm X G N K (some .int) (10, 232, 0, 0) := hm
  show AW X G 3 N 0 [(0, _)] [] S 0 0
  have hmm := qPa_16 h11 hq6
  have hP2 : mI P 2 = mI Q 2 := by rw [← hPa]; exact (ps_Pa Q).1 2 (by decide) (by decide) (by decide)
  rw [hPa] at hmm
  obtain ⟨hm16, h60⟩ := hmm
  refine r_aload_n (pc' := 1) h dX5_execute_0 rfl rfl ?_
  refine r_callV0 (pc' := 4) (M := mX5_parse) h hm dX5_execute_1 rfl lX5_233 vX5_parse rfl hQ.l0 hQ.o (Nat.le_of_ble_eq_true rfl) (rrb rfl) (kX5_parse hQ h11 hq6 (fun S1 hQ1 hR1 => ?_))
  show AW X G _ _ _ _ _ _ _ _
  rw [hPa] at hQ1
  refine r_aload_n (pc' := 5) h dX5_execute_4 rfl rfl ?_
  refine r_iconst (pc' := 6) (v := 0) h dX5_execute_5 rfl (by decide) ?_
  refine pX5_200 (pc' := 9) h dX5_execute_6 rfl hQ1.l0 hQ1.o (Nat.le_of_ble_eq_true rfl) ?_
  refine wM11 hQ1 (fun S2 hQ2 hR2 => ?_)
  refine r_aload_n (pc' := 10) h dX5_execute_9 rfl rfl ?_
  refine gX5_206 (pc' := 13) h dX5_execute_10 rfl hQ2.l0 hQ2.o rfl ?_
  refine r_if_lt (tgt := 31) (pc' := 16) h dX5_execute_13 (by decide) rfl (fun c0 => ?_) (fun c0 => ?_)
  · try simp only [mM_sI, mM_sM] at c0
    have h13 : ¬ 0 ≤ mI P 13 := by rw [← mI_s11 P 0 (by decide)]; exact Int32.not_le.mpr c0
    refine r_aload_n (pc' := 32) h dX5_execute_31 rfl rfl ?_
    refine r_callV0 (pc' := 35) (M := mX5_begins) h hm dX5_execute_32 rfl lX5_92 vX5_begins rfl hQ2.l0 hQ2.o (Nat.le_of_ble_eq_true rfl) (rrb rfl) (kX5_begins hQ2 (fun S3 hQ3 hR3 => ?_))
    show AW X G _ _ _ _ _ _ _ _
    refine r_iconst (pc' := 36) (v := 0) h dX5_execute_35 rfl (by decide) ?_
    refine r_istoren (j := 1) (pc' := 37) h rfl dX5_execute_36 rfl (by decide) rfl ?_
    refine r_iconst (pc' := 38) (v := 0) h dX5_execute_37 rfl (by decide) ?_
    refine r_istoren (j := 2) (pc' := 39) h rfl dX5_execute_38 rfl (by decide) rfl ?_
    have loop : ∀ (n j : Nat), j ≤ qXm P → qXm P - j < n → ∀ Sj, isM G N Sj (qEl j (qXr P)).1 → GR S Sj → dnN (qXr P) j = j → AW X G 3 N 39 [(0, .ref (ad G 119)), (1, .int (qEl j (qXr P)).2), (2, .int (nI j))] [] Sj 0 0 := by
      intro n
      induction n with
      | zero => intro j h1 h2; exact absurd h2 (by omega)
      | succ n ih =>
        intro j h1 h2 Sj hj1 hr1 hd
        have hkp := kp_El (qXr P) j
        have h16 : mI (qEl j (qXr P)).1 16 = nI (qXm P) := hkp.2.1.trans hm16
        have h16b : mI (qEl j (qXr P)).1 16 = mI P 16 := hkp.2.1
        have hCj : mI (qEl j (qXr P)).1 2 = mI Q 2 := hkp.1.trans hP2
        refine r_iload_n (pc' := 40) h dX5_execute_39 rfl rfl ?_
        refine r_aload_n (pc' := 41) h dX5_execute_40 rfl rfl ?_
        refine gX5_218 (pc' := 44) h dX5_execute_41 rfl hj1.l0 hj1.o rfl ?_
        refine r_icmp_ge (tgt := 65) (pc' := 47) h dX5_execute_44 (by decide) rfl (fun c1 => ?_) (fun c1 => ?_)
        · try simp only [mM_sI, mM_sM] at c1
          have ej := lp_ge (c := qXm P) h16 (by omega) h1 c1
          subst ej
          have hfin : qEl (qXm P) (qXr P) = qEl (qXm P) (qXr P) ∧ dnN (qXr P) (qXm P) = qXm P := ⟨rfl, hd⟩
          refine r_iload_n (pc' := 66) h dX5_execute_65 rfl rfl ?_
          refine r_iconst (pc' := 67) (v := 3) h dX5_execute_66 rfl (by decide) ?_
          refine r_icmp_ne (tgt := 91) (pc' := 70) h dX5_execute_67 (by decide) rfl (fun c2 => ?_) (fun c2 => ?_)
          · try simp only [mM_sI, mM_sM] at c2
            have h67 := c2
            refine r_aload_n (pc' := 92) h dX5_execute_91 rfl rfl ?_
            refine r_aload_n (pc' := 93) h dX5_execute_92 rfl rfl ?_
            refine gX5_218 (pc' := 96) h dX5_execute_93 rfl hj1.l0 hj1.o rfl ?_
            refine pX5_37 (pc' := 99) h dX5_execute_96 rfl hj1.l0 hj1.o (Nat.le_of_ble_eq_true rfl) ?_
            refine wM4 hj1 (fun S4 hQ4 hR4 => ?_)
            refine r_aload_n (pc' := 100) h dX5_execute_99 rfl rfl ?_
            refine r_iload_n (pc' := 101) h dX5_execute_100 rfl rfl ?_
            refine r_iconst (pc' := 102) (v := 2) h dX5_execute_101 rfl (by decide) ?_
            refine r_iconst (pc' := 103) (v := 2) h dX5_execute_102 rfl (by decide) ?_
            refine r_iconst (pc' := 104) (v := 3) h dX5_execute_103 rfl (by decide) ?_
            refine r_callV4 (pc' := 107) (M := mX5_ends) h hm dX5_execute_104 rfl lX5_99 vX5_ends rfl hQ4.l0 hQ4.o (Nat.le_of_ble_eq_true rfl) (rrb rfl) (kX5_ends hQ4 (hC_of hc hCj) (fun S5 hQ5 hR5 => ?_))
            show AW X G _ _ _ _ _ _ _ _
            refine r_ireturn h hm dX5_execute_107 (Nat.le_of_ble_eq_true rfl) (Nat.le_of_ble_eq_true rfl) ?_
            refine kM hk hQ5 (((hr1).trans hR4).trans hR5) ?_
            rw [qXe, if_neg h13, hfin.1, hfin.2, qXf, if_neg h67, ← h16b]
            all_goals rfl
          · try simp only [mM_sI, mM_sM] at c2
            have h67 := c2
            refine r_aload_n (pc' := 71) h dX5_execute_70 rfl rfl ?_
            refine r_aload_n (pc' := 72) h dX5_execute_71 rfl rfl ?_
            refine gX5_40 (pc' := 75) h dX5_execute_72 rfl hj1.l0 hj1.o rfl ?_
            refine pX5_46 (pc' := 78) h dX5_execute_75 rfl hj1.l0 hj1.o (Nat.le_of_ble_eq_true rfl) ?_
            refine wM7 hj1 (fun S6 hQ6 hR6 => ?_)
            refine r_aload_n (pc' := 79) h dX5_execute_78 rfl rfl ?_
            refine r_bipush (pc' := 81) (v := 10) h dX5_execute_79 rfl (by decide) ?_
            refine pX5_40 (pc' := 84) h dX5_execute_81 rfl hQ6.l0 hQ6.o (Nat.le_of_ble_eq_true rfl) ?_
            refine wM5 hQ6 (fun S7 hQ7 hR7 => ?_)
            refine r_aload_n (pc' := 85) h dX5_execute_84 rfl rfl ?_
            refine r_iload_n (pc' := 86) h dX5_execute_85 rfl rfl ?_
            refine r_iconst (pc' := 87) (v := 1) h dX5_execute_86 rfl (by decide) ?_
            refine r_isub (pc' := 88) h dX5_execute_87 rfl ?_
            refine pX5_43 (pc' := 91) h dX5_execute_88 rfl hQ7.l0 hQ7.o (Nat.le_of_ble_eq_true rfl) ?_
            refine wM6 hQ7 (fun S8 hQ8 hR8 => ?_)
            refine r_aload_n (pc' := 92) h dX5_execute_91 rfl rfl ?_
            refine r_aload_n (pc' := 93) h dX5_execute_92 rfl rfl ?_
            refine gX5_218 (pc' := 96) h dX5_execute_93 rfl hQ8.l0 hQ8.o rfl ?_
            refine pX5_37 (pc' := 99) h dX5_execute_96 rfl hQ8.l0 hQ8.o (Nat.le_of_ble_eq_true rfl) ?_
            refine wM4 hQ8 (fun S9 hQ9 hR9 => ?_)
            refine r_aload_n (pc' := 100) h dX5_execute_99 rfl rfl ?_
            refine r_iload_n (pc' := 101) h dX5_execute_100 rfl rfl ?_
            refine r_iconst (pc' := 102) (v := 2) h dX5_execute_101 rfl (by decide) ?_
            refine r_iconst (pc' := 103) (v := 2) h dX5_execute_102 rfl (by decide) ?_
            refine r_iconst (pc' := 104) (v := 3) h dX5_execute_103 rfl (by decide) ?_
            refine r_callV4 (pc' := 107) (M := mX5_ends) h hm dX5_execute_104 rfl lX5_99 vX5_ends rfl hQ9.l0 hQ9.o (Nat.le_of_ble_eq_true rfl) (rrb rfl) (kX5_ends hQ9 (hC_of hc hCj) (fun S10 hQ10 hR10 => ?_))
            show AW X G _ _ _ _ _ _ _ _
            refine r_ireturn h hm dX5_execute_107 (Nat.le_of_ble_eq_true rfl) (Nat.le_of_ble_eq_true rfl) ?_
            refine kM hk hQ10 ((((((hr1).trans hR6).trans hR7).trans hR8).trans hR9).trans hR10) ?_
            rw [qXe, if_neg h13, hfin.1, hfin.2, qXf, if_pos h67, ← h16b]
            all_goals rfl
        · try simp only [mM_sI, mM_sM] at c1
          have hj := lp_lt (c := qXm P) h16 (by omega) h1 c1
          refine r_iload_n (pc' := 48) h dX5_execute_47 rfl rfl ?_
          refine r_if_ne (tgt := 65) (pc' := 51) h dX5_execute_48 (by decide) rfl (fun c3 => ?_) (fun c3 => ?_)
          · try simp only [mM_sI, mM_sM] at c3
            obtain ⟨k9, hk9⟩ : ∃ k9, qXm P = j + k9 := ⟨qXm P - j, by omega⟩
            have hfin : qEl (qXm P) (qXr P) = qEl j (qXr P) ∧ dnN (qXr P) (qXm P) = j := by rw [hk9]; exact ⟨(qEl_stop _ c3 k9).1, (qEl_stop _ c3 k9).2.trans hd⟩
            refine r_iload_n (pc' := 66) h dX5_execute_65 rfl rfl ?_
            refine r_iconst (pc' := 67) (v := 3) h dX5_execute_66 rfl (by decide) ?_
            refine r_icmp_ne (tgt := 91) (pc' := 70) h dX5_execute_67 (by decide) rfl (fun c4 => ?_) (fun c4 => ?_)
            · try simp only [mM_sI, mM_sM] at c4
              have h67 := c4
              refine r_aload_n (pc' := 92) h dX5_execute_91 rfl rfl ?_
              refine r_aload_n (pc' := 93) h dX5_execute_92 rfl rfl ?_
              refine gX5_218 (pc' := 96) h dX5_execute_93 rfl hj1.l0 hj1.o rfl ?_
              refine pX5_37 (pc' := 99) h dX5_execute_96 rfl hj1.l0 hj1.o (Nat.le_of_ble_eq_true rfl) ?_
              refine wM4 hj1 (fun S11 hQ11 hR11 => ?_)
              refine r_aload_n (pc' := 100) h dX5_execute_99 rfl rfl ?_
              refine r_iload_n (pc' := 101) h dX5_execute_100 rfl rfl ?_
              refine r_iconst (pc' := 102) (v := 2) h dX5_execute_101 rfl (by decide) ?_
              refine r_iconst (pc' := 103) (v := 2) h dX5_execute_102 rfl (by decide) ?_
              refine r_iconst (pc' := 104) (v := 3) h dX5_execute_103 rfl (by decide) ?_
              refine r_callV4 (pc' := 107) (M := mX5_ends) h hm dX5_execute_104 rfl lX5_99 vX5_ends rfl hQ11.l0 hQ11.o (Nat.le_of_ble_eq_true rfl) (rrb rfl) (kX5_ends hQ11 (hC_of hc hCj) (fun S12 hQ12 hR12 => ?_))
              show AW X G _ _ _ _ _ _ _ _
              refine r_ireturn h hm dX5_execute_107 (Nat.le_of_ble_eq_true rfl) (Nat.le_of_ble_eq_true rfl) ?_
              refine kM hk hQ12 (((hr1).trans hR11).trans hR12) ?_
              rw [qXe, if_neg h13, hfin.1, hfin.2, qXf, if_neg h67, ← h16b]
              all_goals rfl
            · try simp only [mM_sI, mM_sM] at c4
              have h67 := c4
              refine r_aload_n (pc' := 71) h dX5_execute_70 rfl rfl ?_
              refine r_aload_n (pc' := 72) h dX5_execute_71 rfl rfl ?_
              refine gX5_40 (pc' := 75) h dX5_execute_72 rfl hj1.l0 hj1.o rfl ?_
              refine pX5_46 (pc' := 78) h dX5_execute_75 rfl hj1.l0 hj1.o (Nat.le_of_ble_eq_true rfl) ?_
              refine wM7 hj1 (fun S13 hQ13 hR13 => ?_)
              refine r_aload_n (pc' := 79) h dX5_execute_78 rfl rfl ?_
              refine r_bipush (pc' := 81) (v := 10) h dX5_execute_79 rfl (by decide) ?_
              refine pX5_40 (pc' := 84) h dX5_execute_81 rfl hQ13.l0 hQ13.o (Nat.le_of_ble_eq_true rfl) ?_
              refine wM5 hQ13 (fun S14 hQ14 hR14 => ?_)
              refine r_aload_n (pc' := 85) h dX5_execute_84 rfl rfl ?_
              refine r_iload_n (pc' := 86) h dX5_execute_85 rfl rfl ?_
              refine r_iconst (pc' := 87) (v := 1) h dX5_execute_86 rfl (by decide) ?_
              refine r_isub (pc' := 88) h dX5_execute_87 rfl ?_
              refine pX5_43 (pc' := 91) h dX5_execute_88 rfl hQ14.l0 hQ14.o (Nat.le_of_ble_eq_true rfl) ?_
              refine wM6 hQ14 (fun S15 hQ15 hR15 => ?_)
              refine r_aload_n (pc' := 92) h dX5_execute_91 rfl rfl ?_
              refine r_aload_n (pc' := 93) h dX5_execute_92 rfl rfl ?_
              refine gX5_218 (pc' := 96) h dX5_execute_93 rfl hQ15.l0 hQ15.o rfl ?_
              refine pX5_37 (pc' := 99) h dX5_execute_96 rfl hQ15.l0 hQ15.o (Nat.le_of_ble_eq_true rfl) ?_
              refine wM4 hQ15 (fun S16 hQ16 hR16 => ?_)
              refine r_aload_n (pc' := 100) h dX5_execute_99 rfl rfl ?_
              refine r_iload_n (pc' := 101) h dX5_execute_100 rfl rfl ?_
              refine r_iconst (pc' := 102) (v := 2) h dX5_execute_101 rfl (by decide) ?_
              refine r_iconst (pc' := 103) (v := 2) h dX5_execute_102 rfl (by decide) ?_
              refine r_iconst (pc' := 104) (v := 3) h dX5_execute_103 rfl (by decide) ?_
              refine r_callV4 (pc' := 107) (M := mX5_ends) h hm dX5_execute_104 rfl lX5_99 vX5_ends rfl hQ16.l0 hQ16.o (Nat.le_of_ble_eq_true rfl) (rrb rfl) (kX5_ends hQ16 (hC_of hc hCj) (fun S17 hQ17 hR17 => ?_))
              show AW X G _ _ _ _ _ _ _ _
              refine r_ireturn h hm dX5_execute_107 (Nat.le_of_ble_eq_true rfl) (Nat.le_of_ble_eq_true rfl) ?_
              refine kM hk hQ17 ((((((hr1).trans hR13).trans hR14).trans hR15).trans hR16).trans hR17) ?_
              rw [qXe, if_neg h13, hfin.1, hfin.2, qXf, if_pos h67, ← h16b]
              all_goals rfl
          · try simp only [mM_sI, mM_sM] at c3
            have h48 : (qEl j (qXr P)).2 = 0 := c3
            obtain ⟨hJ1, ⟨t, hJ4, hJ3⟩, hJ2⟩ := hJ h13 j hj h48
            refine r_aload_n (pc' := 52) h dX5_execute_51 rfl rfl ?_
            refine r_iconst (pc' := 53) (v := 4) h dX5_execute_52 rfl (by decide) ?_
            refine r_iload_n (pc' := 54) h dX5_execute_53 rfl rfl ?_
            refine r_imul (pc' := 55) h dX5_execute_54 rfl ?_
            refine r_callV1 (pc' := 58) (M := mX5_does) h hm dX5_execute_55 rfl lX5_236 vX5_does rfl hj1.l0 hj1.o (Nat.le_of_ble_eq_true rfl) (rrb rfl) (kX5_does hj1 hJ1 hJ4 hJ3 (ix_J hj h60) hJ2 (fun S18 hQ18 hR18 => ?_))
            show AW X G _ _ _ _ _ _ _ _
            refine r_istoren (j := 1) (pc' := 59) h rfl dX5_execute_58 rfl (by decide) rfl ?_
            refine r_iinc (pc' := 62) (v := 1) h dX5_execute_59 rfl (by decide) (by decide) rfl rfl ?_
            refine r_goto (tgt := 39) h dX5_execute_62 (by decide) ?_
            have hz : isM G N S18 (qEl (j + 1) (qXr P)).1 := by rw [qEl, if_pos h48]; exact hQ18
            exact aw_cast (by simp [qEl, h48, nI_1]) (ih (j + 1) (by omega) (by omega) _ hz ((hr1).trans hR18) (by rw [dnN, if_pos h48]))
    exact loop (qXm P + 1) 0 (Nat.zero_le _) (by omega) _ hQ3 (((hR1).trans hR2).trans hR3) rfl
  · try simp only [mM_sI, mM_sM] at c0
    have h13 : 0 ≤ mI P 13 := by rw [← mI_s11 P 0 (by decide)]; exact Int32.not_lt.mp c0
    refine r_aload_n (pc' := 17) h dX5_execute_16 rfl rfl ?_
    refine r_aload_n (pc' := 18) h dX5_execute_17 rfl rfl ?_
    refine gX5_206 (pc' := 21) h dX5_execute_18 rfl hQ2.l0 hQ2.o rfl ?_
    refine pX5_20 (pc' := 24) h dX5_execute_21 rfl hQ2.l0 hQ2.o (Nat.le_of_ble_eq_true rfl) ?_
    refine wM14 hQ2 (fun S19 hQ19 hR19 => ?_)
    refine r_aload_n (pc' := 25) h dX5_execute_24 rfl rfl ?_
    refine r_iconst (pc' := 26) (v := 1) h dX5_execute_25 rfl (by decide) ?_
    refine pX5_27 (pc' := 29) h dX5_execute_26 rfl hQ19.l0 hQ19.o (Nat.le_of_ble_eq_true rfl) ?_
    refine wM0 hQ19 (fun S20 hQ20 hR20 => ?_)
    refine r_iconst (pc' := 30) (v := 0) h dX5_execute_29 rfl (by decide) ?_
    refine r_ireturn h hm dX5_execute_30 (Nat.le_of_ble_eq_true rfl) (Nat.le_of_ble_eq_true rfl) ?_
    refine kM hk hQ20 ((((hR1).trans hR2).trans hR19).trans hR20) ?_
    rw [qXe, if_pos h13]; rfl
