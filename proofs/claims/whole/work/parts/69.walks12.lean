/-! THE WALKS: the text of no turbine. -/
theorem kX5_writeTurbineN {l : Launch} {G : GX} {N : Nat} {S : Nat → va_E} {K : RK} {Q : MM} (hQ : isM G N S Q) (hw : wM (mM Q)) {t : Int32} (hn : qIT (mM Q) t = false) (hk : ∀ S1, isM G N S1 (qWtt Q t).1 → GR S S1 → K (.inl (some (.int (qWtt Q t).2))) S1) : RetK l G N mX5_writeTurbine (6, 136, 0, 0) [.ref (ad G 119), .int t] S K := by
  refine ret_enter (by decide +kernel) (Nat.le_of_ble_eq_true rfl) (fun X hX h hm => ?_)
  subst hX
  replace h : OK X G N cX5_writeTurbine RX5 2 (6, 136, 0, 0) := h
  replace hm : OKm X G N K (some .int) (6, 136, 0, 0) := hm
  show AW X G 2 N 0 [(0, _), (1, _)] [] S 0 0
  refine r_aload_n (pc' := 1) h dX5_writeTurbine_0 rfl rfl ?_
  refine r_aload_n (pc' := 2) h dX5_writeTurbine_1 rfl rfl ?_
  refine r_iload_n (pc' := 3) h dX5_writeTurbine_2 rfl rfl ?_
  refine r_callV1 (pc' := 6) (M := mX5_isTurbine) h hm dX5_writeTurbine_3 rfl lX5_103 vX5_isTurbine rfl hQ.l0 hQ.o (Nat.le_of_ble_eq_true rfl) (rrb rfl) (kX5_isTurbine hQ ?_)
  show AW X G _ _ _ _ _ _ _ _
  refine r_callV1 (pc' := 9) (M := mX5_isFine) h hm dX5_writeTurbine_6 rfl lX5_49 vX5_isFine rfl hQ.l0 hQ.o (Nat.le_of_ble_eq_true rfl) (rrb rfl) (kX5_isFine hQ (fun S1 hQ1 hR1 => ?_))
  show AW X G _ _ _ _ _ _ _ _
  refine r_if_neb (tgt := 14) (pc' := 12) h dX5_writeTurbine_9 (by decide) rfl (fun c0 => ?_) (fun c0 => ?_)
  · try simp only [mM_sI, mM_sM] at c0
    exact absurd (hn.symm.trans c0) (by decide)
  · try simp only [mM_sI, mM_sM] at c0
    refine r_iconst (pc' := 13) (v := 0) h dX5_writeTurbine_12 rfl (by decide) ?_
    refine r_ireturn h hm dX5_writeTurbine_13 (Nat.le_of_ble_eq_true rfl) (Nat.le_of_ble_eq_true rfl) ?_
    exact kM hk hQ1 hR1 (by rw [qWtt, if_neg (by rw [hn]; decide), hn]; rfl)
